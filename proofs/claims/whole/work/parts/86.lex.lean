/-! THE TEXT, scanning, the class's lexer (printed by gen/g86.py) -/
/-- byte j of a word, the first one the highest -/
def byF (v : Int) (j : Nat) : Int := opI (· &&& ·) (opI fUsh v ((24 - 8 * j : Nat) : Int)) 255
theorem and255 (x : Int) : 0 ≤ opI (· &&& ·) x 255 ∧ opI (· &&& ·) x 255 ≤ 255 := by
  have h1 := opI_rng (· &&& ·) x 255
  have h2 := u_and x 255
  have h3 : uN32 x &&& uN32 255 ≤ 255 := Nat.le_trans Nat.and_le_right (by decide)
  rw [← h2] at h3
  unfold uN32 in32 at *
  omega
theorem by_rng (v : Int) (j : Nat) : 0 ≤ byF v j ∧ byF v j ≤ 255 := and255 _
theorem shr_bv {n : Nat} (h : n < 32) (a : Int32) : (a >>> Int32.ofNat n).toBitVec = a.toBitVec.sshiftRight n := by
  rw [Int32.toBitVec_shiftRight]
  have : ∀ k : Fin 32, ((Int32.ofNat k.val).toBitVec.smod 32).toNat = k.val := by decide +kernel
  have h2 := this ⟨n, h⟩
  rw [BitVec.sshiftRight_eq', h2]
theorem bt_shr {n c : Nat} (h : n + c < 32) (x : Int) : bt (opI fShr x n) c = bt x (n + c) := by
  unfold opI fShr; rw [bt_toInt, sh_amt (by omega), shr_bv (by omega), BitVec.getLsbD_sshiftRight]
  rw [if_pos h, show decide (32 ≤ c) = false from decide_eq_false (by omega)]
  simp [bt]
theorem bt_255 (c : Nat) : bt 255 c = decide (c < 8) := by
  unfold bt
  rcases Nat.lt_or_ge c 32 with h | h
  · have : ∀ k : Fin 32, (BitVec.ofInt 32 255).getLsbD k.val = decide (k.val < 8) := by decide +kernel
    exact this ⟨c, h⟩
  · rw [BitVec.getLsbD_of_ge _ _ h]; exact (decide_eq_false (by omega)).symm
theorem by_shr (v : Int) (j : Nat) : opI (· &&& ·) (opI fShr v ((24 - 8 * j : Nat) : Int)) 255 = byF v j := by
  unfold byF
  refine bt_ext (opI_rng _ _ _) (opI_rng _ _ _) (fun c hc => ?_)
  rw [bt_and, bt_and, bt_255]
  by_cases h8 : c < 8
  · rw [bt_shr (by omega), bt_ush (by omega)]
  · rw [decide_eq_false h8, Bool.and_false, Bool.and_false]
theorem shr2 {k : Nat} (h : k < 1000) : opI fShr (k : Int) 2 = ((k / 4 : Nat) : Int) := by
  have : ∀ q : Fin 1000, opI fShr ((q.val : Nat) : Int) 2 = ((q.val / 4 : Nat) : Int) := by decide +kernel
  exact this ⟨k, h⟩
theorem and3 {k : Nat} (h : k < 1000) : opI (· &&& ·) (k : Int) 3 = ((k % 4 : Nat) : Int) := by
  have : ∀ q : Fin 1000, opI (· &&& ·) ((q.val : Nat) : Int) 3 = ((q.val % 4 : Nat) : Int) := by decide +kernel
  exact this ⟨k, h⟩
/-- scanning -/
def scn (p : Int → Bool) (tx : F1) : Nat → Nat → Nat
  | 0, i => i
  | m + 1, i => if p (tx i) = true then scn p tx m (i + 1) else i
def scF (p : Int → Bool) (tx : F1) (n i : Nat) : Nat := scn p tx (n - i) i
theorem scF_step {p : Int → Bool} {tx : F1} {n i : Nat} (h : i < n) (hp : p (tx i) = true) : scF p tx n i = scF p tx n (i + 1) := by
  unfold scF; rw [show n - i = (n - (i + 1)) + 1 by omega]
  show (if p (tx i) = true then _ else _) = _
  rw [if_pos hp]
theorem scF_end {p : Int → Bool} {tx : F1} {n i : Nat} (h : n ≤ i) : scF p tx n i = i := by
  unfold scF; rw [show n - i = 0 by omega]; rfl
theorem scF_not {p : Int → Bool} {tx : F1} {n i : Nat} (hp : p (tx i) = false) : scF p tx n i = i := by
  unfold scF
  rcases n - i with _ | m
  · rfl
  · show (if p (tx i) = true then _ else _) = _
    rw [if_neg (by rw [hp]; exact Bool.false_ne_true)]
theorem scF_ge {p : Int → Bool} {tx : F1} {n : Nat} (i : Nat) : i ≤ scF p tx n i := by
  by_cases h : i < n
  · by_cases hp : p (tx i) = true
    · rw [scF_step h hp]
      have := scF_ge (p := p) (tx := tx) (n := n) (i + 1)
      omega
    · rw [scF_not (Bool.not_eq_true _ ▸ hp)]; exact Nat.le_refl _
  · rw [scF_end (by omega)]; exact Nat.le_refl _
termination_by n - i
theorem scF_le {p : Int → Bool} {tx : F1} {n : Nat} (i : Nat) (hi : i ≤ n) : scF p tx n i ≤ n := by
  by_cases h : i < n
  · by_cases hp : p (tx i) = true
    · rw [scF_step h hp]; exact scF_le (i + 1) (by omega)
    · rw [scF_not (Bool.not_eq_true _ ▸ hp)]; exact hi
  · rw [scF_end (by omega)]; exact hi
termination_by n - i
theorem scF_all {p : Int → Bool} {tx : F1} {n : Nat} (i : Nat) : ∀ q, i ≤ q → q < scF p tx n i → p (tx q) = true := by
  intro q hq h2
  by_cases h : i < n
  · by_cases hp : p (tx i) = true
    · rw [scF_step h hp] at h2
      by_cases e : q = i
      · rw [e]; exact hp
      · exact scF_all (i + 1) q (by omega) h2
    · rw [scF_not (Bool.not_eq_true _ ▸ hp)] at h2; omega
  · rw [scF_end (by omega)] at h2; omega
termination_by n - i
theorem scF_stop {p : Int → Bool} {tx : F1} {n : Nat} (i : Nat) (h2 : scF p tx n i < n) : p (tx (scF p tx n i)) = false := by
  by_cases h : i < n
  · by_cases hp : p (tx i) = true
    · rw [scF_step h hp] at h2 ⊢; exact scF_stop (i + 1) h2
    · have hp' : p (tx i) = false := Bool.not_eq_true _ ▸ hp
      rw [scF_not hp']; exact hp'
  · rw [scF_end (by omega)] at h2; omega
termination_by n - i
def isSp (c : Int) : Bool := decide (c = 32)
def isLe (c : Int) : Bool := decide (97 ≤ c ∧ c ≤ 122)
def isDi (c : Int) : Bool := decide (48 ≤ c ∧ c ≤ 57)
abbrev spF (tx : F1) (n i : Nat) : Nat := scF isSp tx n i
abbrev leF (tx : F1) (n i : Nat) : Nat := scF isLe tx n i
abbrev diF (tx : F1) (n i : Nat) : Nat := scF isDi tx n i
theorem spF_le {tx : F1} {n : Nat} (i : Nat) (h : i ≤ n) : spF tx n i ≤ n := scF_le i h
theorem leF_le {tx : F1} {n : Nat} (i : Nat) (h : i ≤ n) : leF tx n i ≤ n := scF_le i h
theorem diF_le {tx : F1} {n : Nat} (i : Nat) (h : i ≤ n) : diF tx n i ≤ n := scF_le i h
theorem spF_ge {tx : F1} {n : Nat} (i : Nat) : i ≤ spF tx n i := scF_ge i
theorem leF_ge {tx : F1} {n : Nat} (i : Nat) : i ≤ leF tx n i := scF_ge i
theorem diF_ge {tx : F1} {n : Nat} (i : Nat) : i ≤ diF tx n i := scF_ge i
theorem spF_stop {tx : F1} {n : Nat} (i : Nat) (h : spF tx n i < n) : isSp (tx (spF tx n i)) = false := scF_stop i h
def atF (tx : F1) (n i : Nat) : Int := if i < n then tx i else -1
theorem atF_in {tx : F1} {n i : Nat} (h : i < n) : atF tx n i = tx i := if_pos h
theorem atF_out {tx : F1} {n i : Nat} (h : n ≤ i) : atF tx n i = -1 := if_neg (by omega)
theorem spF_idem {tx : F1} {n i : Nat} : spF tx n (spF tx n i) = spF tx n i := by
  rcases Nat.lt_or_ge (spF tx n i) n with h | h
  · exact scF_not (scF_stop i h)
  · exact scF_end h
theorem spF_not {tx : F1} {n i : Nat} (h : tx i ≠ 32) : spF tx n i = i := scF_not (decide_eq_false h)
/-- letters packed, digits valued -/
def nmF (tx : F1) (a : Nat) : Nat → Int
  | 0 => 0
  | k + 1 => 32 * nmF tx a k + (tx (a + k) - 96)
def nuF (tx : F1) (a : Nat) : Nat → Int
  | 0 => 0
  | k + 1 => 10 * nuF tx a k + (tx (a + k) - 48)
def wdF (tx : F1) (n q : Nat) : Int := if leF tx n q - q ≤ 8 then nmF tx q (leF tx n q - q) else 0
theorem nmF_rng {tx : F1} {a : Nat} : ∀ k : Nat, (∀ q, a ≤ q → q < a + k → isLe (tx q) = true) → 0 ≤ nmF tx a k ∧ nmF tx a k < ((32 ^ k : Nat) : Int) ∧ (0 < k → 0 < nmF tx a k)
  | 0, _ => ⟨Int.le_refl _, by show (0 : Int) < ((32 ^ 0 : Nat) : Int); decide, fun h => absurd h (by omega)⟩
  | k + 1, h => by
    obtain ⟨h1, h2, h3⟩ := nmF_rng k (fun q h1 h2 => h q h1 (by omega))
    have h4 := of_decide_eq_true (h (a + k) (by omega) (by omega))
    have h5 : ((32 ^ (k + 1) : Nat) : Int) = 32 * ((32 ^ k : Nat) : Int) := by rw [Nat.pow_succ]; omega
    show 0 ≤ 32 * nmF tx a k + (tx (a + k) - 96) ∧ 32 * nmF tx a k + (tx (a + k) - 96) < _ ∧ (_ → 0 < 32 * nmF tx a k + (tx (a + k) - 96))
    rw [h5]
    exact ⟨by omega, by omega, fun _ => by omega⟩
theorem nuF_rng {tx : F1} {a : Nat} : ∀ k : Nat, (∀ q, a ≤ q → q < a + k → isDi (tx q) = true) → 0 ≤ nuF tx a k
  | 0, _ => Int.le_refl _
  | k + 1, h => by
    have h1 := nuF_rng k (fun q h1 h2 => h q h1 (by omega))
    have h4 := of_decide_eq_true (h (a + k) (by omega) (by omega))
    show 0 ≤ 10 * nuF tx a k + (tx (a + k) - 48)
    omega
theorem pow8 {k : Nat} (h : k ≤ 8) : 32 ^ k ≤ 1099511627776 := Nat.le_trans (Nat.pow_le_pow_right (by decide) h) (by decide)
theorem wd_step {w l : Int} (hw : 0 ≤ w) (hw2 : w < 1099511627776) (hl : 0 ≤ l) (hl2 : l < 32) : opL (· ||| ·) ((fLshl (Int64.ofInt w) (Int32.ofInt 5)).toInt) l = 32 * w + l := by
  obtain ⟨a, rfl⟩ : ∃ a : Nat, w = a := ⟨w.toNat, by omega⟩
  obtain ⟨b, rfl⟩ : ∃ b : Nat, l = b := ⟨l.toNat, by omega⟩
  unfold opL fLshl
  rw [Int64.ofInt_toInt]
  have h5 : (Int32.ofInt 5).toInt64 &&& 63 = 5 := by decide
  rw [h5, ← Int64.toInt_toBitVec, Int64.toBitVec_or, Int64.toBitVec_shiftLeft]
  have h6 : ((5 : Int64).toBitVec.smod 64).toNat = 5 := by decide
  rw [BitVec.shiftLeft_eq', h6]
  have ha : (Int64.ofInt (a : Int)).toBitVec = BitVec.ofNat 64 a := by simp
  have hb : (Int64.ofInt (b : Int)).toBitVec = BitVec.ofNat 64 b := by simp
  rw [ha, hb]
  have e1 : (BitVec.ofNat 64 a <<< 5 ||| BitVec.ofNat 64 b).toNat = a * 32 + b := by
    rw [BitVec.toNat_or, BitVec.toNat_shiftLeft, BitVec.toNat_ofNat, BitVec.toNat_ofNat, Nat.mod_eq_of_lt (show a < 2 ^ 64 by omega), Nat.mod_eq_of_lt (show b < 2 ^ 64 by omega)]
    rw [Nat.mod_eq_of_lt (by rw [Nat.shiftLeft_eq]; omega), ← Nat.shiftLeft_add_eq_or_of_lt (show b < 2 ^ 5 by omega), Nat.shiftLeft_eq]
  rw [BitVec.toInt_eq_toNat_of_lt (by rw [e1]; omega), e1]
  omega
/-- the class's words of text -/
def TB (I : F2) (tx : F1) (n : Nat) : Prop := ∃ fl : Nat, I 112 1 = (fl : Int) ∧ fl ≤ 225 ∧ n ≤ 4 * fl ∧ (∀ k, k < n → byF (I 113 (k / 4)) (k % 4) = tx k)
theorem TB.cell {I I' : F2} {tx : F1} {n : Nat} (h : TB I tx n) (e1 : I' 112 = I 112) (e2 : I' 113 = I 113) : TB I' tx n := by
  unfold TB; rw [e1, e2]; exact h
theorem TB.rng {I : F2} {tx : F1} {n : Nat} (h : TB I tx n) {k : Nat} (hk : k < n) : 0 ≤ tx k ∧ tx k ≤ 255 := by
  obtain ⟨fl, _, _, _, h4⟩ := h
  rw [← h4 k hk]; exact by_rng _ _
theorem TB.le {I : F2} {tx : F1} {n : Nat} (h : TB I tx n) : n ≤ 900 := by
  obtain ⟨fl, _, h2, h3, _⟩ := h; omega
def onlyT (I I' : F2) : Prop := (∀ a, a ≠ 111 → I' a = I a) ∧ I' 111 2 = I 111 2
theorem onlyT.refl (I : F2) : onlyT I I := ⟨fun _ _ => rfl, rfl⟩
theorem onlyT.trans {I I' I2 : F2} (h : onlyT I I') (h2 : onlyT I' I2) : onlyT I I2 := ⟨fun a ha => (h2.1 a ha).trans (h.1 a ha), h2.2.trans h.2⟩
theorem TB.t {I I' : F2} {tx : F1} {n : Nat} (h : TB I tx n) (e : onlyT I I') : TB I' tx n := h.cell (e.1 112 (by decide)) (e.1 113 (by decide))
theorem sp_byteAt (X : AX) (I J : Nat → Nat → Int) (cc ss : Nat) {tx : F1} {n : Nat} (hT : TB I tx n) (k : Nat) (hk : k < n) : Ev X k_X6_byteAt (0, [some (vr 112), some (vi (k : Int)), none], []) (MS I J cc ss) (fun o T => o = .inl (some (vi (tx k))) ∧ T = MS I J cc ss) := by
  obtain ⟨fl, h1, h2, h3, h4⟩ := hT
  have h5 : k / 4 < fl := by omega
  have h6 := h4 k hk
  refine ev_n (fr' := (3, [some (vr 112), some (vi (k : Int)), none], [vi (opI fShr (k : Int) 2)])) (S' := MS I J cc ss) 3 rfl ?_
  refine ev_eqi (shr2 (by omega)) ?_
  show Ev X k_X6_byteAt (3, [some (vr 112), some (vi (k : Int)), none], [vi ((k / 4) : Int)]) (MS I J cc ss) _
  refine ev_n (fr' := (5, [some (vr 112), some (vi (k : Int)), some (vi ((k / 4) : Int))], [vi ((k / 4) : Int)])) (S' := MS I J cc ss) 2 rfl ?_
  refine ev_if (c := .lt) (off := 20) rfl (by decide) (fun (g1 : ((k / 4) : Int) < 0) => False.elim (by omega)) (fun (g1 : ¬ (((k / 4) : Int) < 0)) => ?_)
  show Ev X k_X6_byteAt (8, [some (vr 112), some (vi (k : Int)), some (vi ((k / 4) : Int))], []) (MS I J cc ss) _
  refine ev_n (fr' := (13, [some (vr 112), some (vi (k : Int)), some (vi ((k / 4) : Int))], [vi (I 112 1), vi ((k / 4) : Int)])) (S' := MS I J cc ss) 3 rfl ?_
  refine ev_eqi (h1) ?_
  show Ev X k_X6_byteAt (13, [some (vr 112), some (vi (k : Int)), some (vi ((k / 4) : Int))], [vi (fl : Int), vi ((k / 4) : Int)]) (MS I J cc ss) _
  refine ev_ic (c := .ge) (off := 12) rfl (by decide) (fun (g2 : (fl : Int) ≤ ((k / 4) : Int)) => False.elim (by omega)) (fun (g2 : ¬ ((fl : Int) ≤ ((k / 4) : Int))) => ?_)
  show Ev X k_X6_byteAt (16, [some (vr 112), some (vi (k : Int)), some (vi ((k / 4) : Int))], []) (MS I J cc ss) _
  refine ev_n (fr' := (22, [some (vr 112), some (vi (k : Int)), some (vi ((k / 4) : Int))], [vi 225, vi ((k / 4) : Int)])) (S' := MS I J cc ss) 4 rfl ?_
  refine ev_ic (c := .lt) (off := 5) rfl (by decide) (fun (g3 : ((k / 4) : Int) < 225) => ?_) (fun (g3 : ¬ (((k / 4) : Int) < 225)) => False.elim (by omega))
  show Ev X k_X6_byteAt (27, [some (vr 112), some (vi (k : Int)), some (vi ((k / 4) : Int))], []) (MS I J cc ss) _
  refine ev_n (fr' := (32, [some (vr 112), some (vi (k : Int)), some (vi ((k / 4) : Int))], [vi ((k / 4) : Int), vr 113])) (S' := MS I J cc ss) 3 rfl ?_
  refine ev_iaN (j := (k / 4)) (z := (I 113 ((k / 4)))) rfl rfl (by omega) (by omega) (rfl) ?_
  show Ev X k_X6_byteAt (33, [some (vr 112), some (vi (k : Int)), some (vi ((k / 4) : Int))], [vi (I 113 ((k / 4)))]) (MS I J cc ss) _
  refine ev_n (fr' := (39, [some (vr 112), some (vi (k : Int)), some (vi ((k / 4) : Int))], [vi (opI (· &&& ·) (k : Int) 3), vi 3, vi 8, vi (I 113 ((k / 4)))])) (S' := MS I J cc ss) 5 rfl ?_
  refine ev_eqi (and3 (by omega)) ?_
  show Ev X k_X6_byteAt (39, [some (vr 112), some (vi (k : Int)), some (vi ((k / 4) : Int))], [vi ((k % 4) : Int), vi 3, vi 8, vi (I 113 ((k / 4)))]) (MS I J cc ss) _
  refine ev_sub (z := 3 - ((k % 4) : Int)) rfl (by omega) (by omega) (by omega) ?_
  show Ev X k_X6_byteAt (40, [some (vr 112), some (vi (k : Int)), some (vi ((k / 4) : Int))], [vi (3 - ((k % 4) : Int)), vi 8, vi (I 113 ((k / 4)))]) (MS I J cc ss) _
  refine ev_mul (z := 24 - 8 * ((k % 4) : Int)) rfl (by omega) (by omega) (by omega) ?_
  show Ev X k_X6_byteAt (41, [some (vr 112), some (vi (k : Int)), some (vi ((k / 4) : Int))], [vi (24 - 8 * ((k % 4) : Int)), vi (I 113 ((k / 4)))]) (MS I J cc ss) _
  refine ev_n (fr' := (46, [some (vr 112), some (vi (k : Int)), some (vi ((k / 4) : Int))], [vi (opI (· &&& ·) (opI fUsh (I 113 ((k / 4))) (24 - 8 * ((k % 4) : Int))) 255)])) (S' := MS I J cc ss) 3 rfl ?_
  refine ev_eqi ((congrArg (fun q => opI (· &&& ·) (opI fUsh (I 113 (k / 4)) q) 255) (show (24 : Int) - 8 * ((k % 4 : Nat) : Int) = ((24 - 8 * (k % 4) : Nat) : Int) by omega)).trans h6) ?_
  show Ev X k_X6_byteAt (46, [some (vr 112), some (vi (k : Int)), some (vi ((k / 4) : Int))], [vi (tx k)]) (MS I J cc ss) _
  refine ev_r rfl rfl rfl ?_
  exact ⟨rfl, rfl⟩
theorem lp_peek (X : AX) (I J : Nat → Nat → Int) (cc ss : Nat) (I0 : F2) {tx : F1} {n : Nat} (hT : TB I tx n) (hn : I 111 2 = (n : Int)) (k : Nat) (hp : I 111 3 = (k : Int)) (hkn : k ≤ n) (hA : ∀ a, a ≠ 111 → I a = I0 a) (hB : ∀ f, f ≠ 3 → I 111 f = I0 111 f) : Ev X k_X4_peek (0, [some (vr 111)], []) (MS I J cc ss) (PV cc ss (some (vi (atF tx n (spF tx n k)))) (fun I' J' => J' = J ∧ (∀ a, a ≠ 111 → I' a = I0 a) ∧ (∀ f, f ≠ 3 → I' 111 f = I0 111 f) ∧ I' 111 3 = (spF tx n k : Int))) := by
  have h900 := hT.le
  refine ev_n (fr' := (4, [some (vr 111)], [vi (I 111 3)])) (S' := MS I J cc ss) 2 rfl ?_
  refine ev_eqi (hp) ?_
  show Ev X k_X4_peek (4, [some (vr 111)], [vi (k : Int)]) (MS I J cc ss) _
  refine ev_n (fr' := (8, [some (vr 111)], [vi (I 111 2), vi (k : Int)])) (S' := MS I J cc ss) 2 rfl ?_
  refine ev_eqi (hn) ?_
  show Ev X k_X4_peek (8, [some (vr 111)], [vi (n : Int), vi (k : Int)]) (MS I J cc ss) _
  refine ev_ic (c := .ge) (off := 32) rfl (by decide) (fun (g1 : (n : Int) ≤ (k : Int)) => ?_) (fun (g1 : ¬ ((n : Int) ≤ (k : Int))) => ?_)
  · show Ev X k_X4_peek (40, [some (vr 111)], []) (MS I J cc ss) _
    refine ev_n (fr' := (44, [some (vr 111)], [vi (I 111 3)])) (S' := MS I J cc ss) 2 rfl ?_
    refine ev_eqi (hp) ?_
    show Ev X k_X4_peek (44, [some (vr 111)], [vi (k : Int)]) (MS I J cc ss) _
    refine ev_n (fr' := (48, [some (vr 111)], [vi (I 111 2), vi (k : Int)])) (S' := MS I J cc ss) 2 rfl ?_
    refine ev_eqi (hn) ?_
    show Ev X k_X4_peek (48, [some (vr 111)], [vi (n : Int), vi (k : Int)]) (MS I J cc ss) _
    refine ev_ic (c := .ge) (off := 17) rfl (by decide) (fun (g2 : (n : Int) ≤ (k : Int)) => ?_) (fun (g2 : ¬ ((n : Int) ≤ (k : Int))) => ?_)
    · show Ev X k_X4_peek (65, [some (vr 111)], []) (MS I J cc ss) _
      refine ev_n (fr' := (66, [some (vr 111)], [vi (-1)])) (S' := MS I J cc ss) 1 rfl ?_
      refine ev_r rfl rfl rfl ?_
      have hs : spF tx n k = k := scF_end (by omega)
      rw [hs]
      exact ⟨_, _, rfl, congrArg (fun z => Sum.inl (some (vi z))) (atF_out (by omega)).symm, rfl, hA, hB, hp⟩
    · show Ev X k_X4_peek (51, [some (vr 111)], []) (MS I J cc ss) _
      refine ev_n (fr' := (59, [some (vr 111)], [vi (I 111 3), vr 112])) (S' := MS I J cc ss) 4 rfl ?_
      refine ev_eqi (hp) ?_
      show Ev X k_X4_peek (59, [some (vr 111)], [vi (k : Int), vr 112]) (MS I J cc ss) _
      refine ev_cv rfl rfl rfl ⟨Nat.le_of_ble_eq_true rfl, Nat.le_of_ble_eq_true rfl⟩ (sp_byteAt X _ _ _ _ hT k (by omega)) ?_
      show Ev X k_X4_peek (62, [some (vr 111)], [vi (tx k)]) (MS I J cc ss) _
      refine ev_n (fr' := (66, [some (vr 111)], [vi (tx k)])) (S' := MS I J cc ss) 1 rfl ?_
      refine ev_r rfl rfl rfl ?_
      have hs : spF tx n k = k := scF_not (decide_eq_false (by omega))
      rw [hs]
      exact ⟨_, _, rfl, congrArg (fun z => Sum.inl (some (vi z))) (atF_in (by omega)).symm, rfl, hA, hB, hp⟩
  · show Ev X k_X4_peek (11, [some (vr 111)], []) (MS I J cc ss) _
    refine ev_n (fr' := (19, [some (vr 111)], [vi (I 111 3), vr 112])) (S' := MS I J cc ss) 4 rfl ?_
    refine ev_eqi (hp) ?_
    show Ev X k_X4_peek (19, [some (vr 111)], [vi (k : Int), vr 112]) (MS I J cc ss) _
    refine ev_cv rfl rfl rfl ⟨Nat.le_of_ble_eq_true rfl, Nat.le_of_ble_eq_true rfl⟩ (sp_byteAt X _ _ _ _ hT k (by omega)) ?_
    show Ev X k_X4_peek (22, [some (vr 111)], [vi (tx k)]) (MS I J cc ss) _
    refine ev_n (fr' := (24, [some (vr 111)], [vi 32, vi (tx k)])) (S' := MS I J cc ss) 1 rfl ?_
    refine ev_ic (c := .ne) (off := 16) rfl (by decide) (fun (g3 : (tx k) ≠ 32) => ?_) (fun (g3 : ¬ ((tx k) ≠ 32)) => ?_)
    · show Ev X k_X4_peek (40, [some (vr 111)], []) (MS I J cc ss) _
      refine ev_n (fr' := (44, [some (vr 111)], [vi (I 111 3)])) (S' := MS I J cc ss) 2 rfl ?_
      refine ev_eqi (hp) ?_
      show Ev X k_X4_peek (44, [some (vr 111)], [vi (k : Int)]) (MS I J cc ss) _
      refine ev_n (fr' := (48, [some (vr 111)], [vi (I 111 2), vi (k : Int)])) (S' := MS I J cc ss) 2 rfl ?_
      refine ev_eqi (hn) ?_
      show Ev X k_X4_peek (48, [some (vr 111)], [vi (n : Int), vi (k : Int)]) (MS I J cc ss) _
      refine ev_ic (c := .ge) (off := 17) rfl (by decide) (fun (g4 : (n : Int) ≤ (k : Int)) => ?_) (fun (g4 : ¬ ((n : Int) ≤ (k : Int))) => ?_)
      · show Ev X k_X4_peek (65, [some (vr 111)], []) (MS I J cc ss) _
        refine ev_n (fr' := (66, [some (vr 111)], [vi (-1)])) (S' := MS I J cc ss) 1 rfl ?_
        refine ev_r rfl rfl rfl ?_
        have hs : spF tx n k = k := scF_end (by omega)
        rw [hs]
        exact ⟨_, _, rfl, congrArg (fun z => Sum.inl (some (vi z))) (atF_out (by omega)).symm, rfl, hA, hB, hp⟩
      · show Ev X k_X4_peek (51, [some (vr 111)], []) (MS I J cc ss) _
        refine ev_n (fr' := (59, [some (vr 111)], [vi (I 111 3), vr 112])) (S' := MS I J cc ss) 4 rfl ?_
        refine ev_eqi (hp) ?_
        show Ev X k_X4_peek (59, [some (vr 111)], [vi (k : Int), vr 112]) (MS I J cc ss) _
        refine ev_cv rfl rfl rfl ⟨Nat.le_of_ble_eq_true rfl, Nat.le_of_ble_eq_true rfl⟩ (sp_byteAt X _ _ _ _ hT k (by omega)) ?_
        show Ev X k_X4_peek (62, [some (vr 111)], [vi (tx k)]) (MS I J cc ss) _
        refine ev_n (fr' := (66, [some (vr 111)], [vi (tx k)])) (S' := MS I J cc ss) 1 rfl ?_
        refine ev_r rfl rfl rfl ?_
        have hs : spF tx n k = k := scF_not (decide_eq_false (by omega))
        rw [hs]
        exact ⟨_, _, rfl, congrArg (fun z => Sum.inl (some (vi z))) (atF_in (by omega)).symm, rfl, hA, hB, hp⟩
    · show Ev X k_X4_peek (27, [some (vr 111)], []) (MS I J cc ss) _
      refine ev_n (fr' := (32, [some (vr 111)], [vi (I 111 3), vr 111])) (S' := MS I J cc ss) 3 rfl ?_
      refine ev_eqi (hp) ?_
      show Ev X k_X4_peek (32, [some (vr 111)], [vi (k : Int), vr 111]) (MS I J cc ss) _
      refine ev_n (fr' := (33, [some (vr 111)], [vi 1, vi (k : Int), vr 111])) (S' := MS I J cc ss) 1 rfl ?_
      refine ev_add (z := (k : Int) + 1) rfl (by omega) (by omega) (by omega) ?_
      show Ev X k_X4_peek (34, [some (vr 111)], [vi ((k : Int) + 1), vr 111]) (MS I J cc ss) _
      refine ev_n (fr' := (37, [some (vr 111)], [])) (S' := MS (up2 I 111 3 ((k : Int) + 1)) J cc ss) 1 rfl ?_
      refine ev_n (fr' := (0, [some (vr 111)], [])) (S' := MS (up2 I 111 3 ((k : Int) + 1)) J cc ss) 1 rfl ?_
      have hs : spF tx n k = spF tx n (k + 1) := scF_step (by omega) (decide_eq_true (by omega))
      rw [hs]
      exact lp_peek X _ J cc ss I0 (hT.cell (up2_row _ _ _ _ (by decide)) (up2_row _ _ _ _ (by decide))) ((up2_ne2 _ _ _ _ (by decide)).trans hn) (k + 1) (up2_same _ _ _ _) (by omega) (fun a ha => (up2_row _ _ _ _ ha).trans (hA a ha)) (fun f hf => (up2_ne2 _ _ _ _ hf).trans (hB f hf))
termination_by n - k
decreasing_by all_goals omega
theorem sp_peek (X : AX) (I J : Nat → Nat → Int) (cc ss : Nat) {tx : F1} {n : Nat} (hT : TB I tx n) (hn : I 111 2 = (n : Int)) (k : Nat) (hp : I 111 3 = (k : Int)) (hkn : k ≤ n) : Ev X k_X4_peek (0, [some (vr 111)], []) (MS I J cc ss) (PV cc ss (some (vi (atF tx n (spF tx n k)))) (fun I' J' => J' = J ∧ (∀ a, a ≠ 111 → I' a = I a) ∧ (∀ f, f ≠ 3 → I' 111 f = I 111 f) ∧ I' 111 3 = (spF tx n k : Int))) := lp_peek X I J cc ss I hT hn k hp hkn (fun _ _ => rfl) (fun _ _ => rfl)
