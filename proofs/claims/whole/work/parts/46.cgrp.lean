/-! GROUPS ARE COUNTED (printed by gen/g46.py) -/
theorem nz_bit {z : Int} (hz : in32 z) (h : z ≠ 0) : ∃ c, c < 32 ∧ bt z c = true := by
  obtain ⟨c, h1, _, h2⟩ := ne_bit (r := 0) (r' := z) ⟨by omega, by omega⟩ hz (fun c _ q => by rw [bt_zero] at q; cases q) h
  exact ⟨c, h1, h2⟩
theorem TR.zero {I : F2} {a : Nat} {G : B2} (hG : TR I a G) {r : Nat} (hr : r < 32) : I a r = 0 ↔ ∀ x, G r x = false := by
  constructor
  · intro h x
    cases e : G r x with
    | false => rfl
    | true =>
      have h1 := (hG.1 r hr).2 x (hG.2 _ _ e).2
      rw [h, bt_zero, e] at h1; cases h1
  · intro h
    exact (bt_eq0 (hG.1 r hr).1).mpr (fun c hc => by rw [(hG.1 r hr).2 c hc, h])
theorem edges_bit {n c : Nat} (hn : 0 < n ∧ n ≤ 32) (hc : c < 32) : bt (opI (· ||| ·) 1 (opI fShl 1 ((n - 1 : Nat) : Int))) c = decide (c = 0 ∨ c + 1 = n) := by
  rw [bt_or, bt_shl (by omega), bt_one, bt_one, Bool.eq_iff_iff]
  simp; omega
def TouchP (G : B2) (n : Nat) (z : Int) : Prop := (z = 0 ∧ ∀ y x, G y x = true → ¬ edgB n y x) ∨ (z = 1 ∧ ∃ y x, G y x = true ∧ edgB n y x)
theorem qdiv {n k j : Nat} (hj : j < n) : (k * n + j) / n = k ∧ (k * n + j) % n = j := by
  rw [Nat.add_comm, Nat.add_mul_div_right _ _ (by omega), Nat.add_mul_mod_self_right, Nat.div_eq_of_lt hj, Nat.mod_eq_of_lt hj]
  exact ⟨by omega, rfl⟩
theorem opQ_no {n k j : Nat} {dg : Bool} {O : B2} (hj : j < n) (h : opQ n dg O (k * n + j) k j = false) : opQ n dg O (k * n + j + 1) = opQ n dg O (k * n + j) := by
  show (if opQ n dg O (k * n + j) ((k * n + j) / n) ((k * n + j) % n) = true then _ else _) = _
  rw [(qdiv hj).1, (qdiv hj).2, if_neg (by rw [h]; decide)]
theorem opQ_yes {n k j : Nat} {dg : Bool} {O : B2} (hj : j < n) (h : opQ n dg O (k * n + j) k j = true) : opQ n dg O (k * n + j + 1) = goneB (opQ n dg O (k * n + j)) dg k j := by
  show (if opQ n dg O (k * n + j) ((k * n + j) / n) ((k * n + j) % n) = true then goneB (opQ n dg O (k * n + j)) dg ((k * n + j) / n) ((k * n + j) % n) else _) = _
  rw [(qdiv hj).1, (qdiv hj).2, if_pos h]
theorem grQ_no {n k j : Nat} {dg ins : Bool} {O : B2} (hj : j < n) (h : opQ n dg O (k * n + j) k j = false) : grQ n dg ins O (k * n + j + 1) = grQ n dg ins O (k * n + j) := by
  show grQ n dg ins O (k * n + j) + (if opQ n dg O (k * n + j) ((k * n + j) / n) ((k * n + j) % n) = true ∧ _ then 1 else 0) = _
  rw [(qdiv hj).1, (qdiv hj).2, if_neg (fun q => by rw [h] at q; cases q.1)]; omega
theorem grQ_yes {n k j : Nat} {dg ins : Bool} {O G : B2} (hj : j < n) (h : opQ n dg O (k * n + j) k j = true) (hG : isGrp (opQ n dg O (k * n + j)) dg k j G) {z : Int} (hz : (z = 1 ∧ (ins = false ∨ ∀ y x, G y x = true → ¬ edgB n y x)) ∨ (z = 0 ∧ ins = true ∧ ∃ y x, G y x = true ∧ edgB n y x)) : grQ n dg ins O (k * n + j + 1) = grQ n dg ins O (k * n + j) + z := by
  show grQ n dg ins O (k * n + j) + (if opQ n dg O (k * n + j) ((k * n + j) / n) ((k * n + j) % n) = true ∧ (ins = false ∨ insB (opQ n dg O (k * n + j)) dg n ((k * n + j) / n) ((k * n + j) % n) = true) then 1 else 0) = _
  rw [(qdiv hj).1, (qdiv hj).2]
  rcases hz with ⟨e, q⟩ | ⟨e, q1, y, x, q2, q3⟩
  · rw [if_pos ⟨h, q.imp id (fun q => (insB_iff hG).mpr q)⟩, e]
  · rw [if_neg, e]
    rintro ⟨_, q | q⟩
    · rw [q] at q1; cases q1
    · exact (insB_iff hG).mp q y x q2 q3
theorem only33.trans {I I' I2 : F2} (h : only33 I I') (h2 : only33 I' I2) : only33 I I2 := fun a h3 h4 => (h2 a h3 h4).trans (h a h3 h4)
theorem touch_row {I : F2} {G : B2} {n k : Nat} (hn32 : 0 < n ∧ n ≤ 32) (hG : TR I 134 G) (hk : k < 32) (h : opI (· &&& ·) (I 134 k) (opI (· ||| ·) 1 (opI fShl 1 ((n - 1 : Nat) : Int))) = 0) : G k 0 = false ∧ G k (n - 1) = false := by
  have e : ∀ c, c < 32 → (c = 0 ∨ c + 1 = n) → G k c = false := fun c hc q => by
    have h1 := (bt_eq0 (opI_rng _ _ _)).mp h c hc
    rw [bt_and, (hG.1 k hk).2 c hc, edges_bit hn32 hc, decide_eq_true q, Bool.and_true] at h1
    exact h1
  exact ⟨e 0 (by omega) (Or.inl rfl), e (n - 1) (by omega) (Or.inr (by omega))⟩
theorem lp_touch (X : AX) (I J : Nat → Nat → Int) (cc ss : Nat) {G : B2} {n : Nat} (hn : I 132 2 = (n : Int)) (hn32 : 0 < n ∧ n ≤ 32) (hG : TR I 134 G) (hGn : ∀ y x, G y x = true → y < n ∧ x < n) (z0 : ∀ x, G 0 x = false) (z1 : ∀ x, G (n - 1) x = false) (k : Nat) (hk : k ≤ n) (hq : ∀ q, q < k → G q 0 = false ∧ G q (n - 1) = false) : Ev X k_X7_groupTouchesEdge (45, [some (vr 132), some (vi (opI (· ||| ·) 1 (opI fShl 1 ((n - 1 : Nat) : Int)))), some (vi (k : Int))], []) (MS I J cc ss) (PZ cc ss (fun z I' J' => I' = I ∧ J' = J ∧ TouchP G n z)) := by
  refine ev_n (fr' := (50, [some (vr 132), some (vi (opI (· ||| ·) 1 (opI fShl 1 ((n - 1 : Nat) : Int)))), some (vi (k : Int))], [vi (I 132 2), vi (k : Int)])) (S' := MS I J cc ss) 3 rfl ?_
  refine ev_eqi (hn) ?_
  show Ev X k_X7_groupTouchesEdge (50, [some (vr 132), some (vi (opI (· ||| ·) 1 (opI fShl 1 ((n - 1 : Nat) : Int)))), some (vi (k : Int))], [vi (n : Int), vi (k : Int)]) (MS I J cc ss) _
  refine ev_ic (c := .ge) (off := 22) rfl (by decide) (fun (g1 : (n : Int) ≤ (k : Int)) => ?_) (fun (g1 : ¬ ((n : Int) ≤ (k : Int))) => ?_)
  · show Ev X k_X7_groupTouchesEdge (72, [some (vr 132), some (vi (opI (· ||| ·) 1 (opI fShl 1 ((n - 1 : Nat) : Int)))), some (vi (k : Int))], []) (MS I J cc ss) _
    refine ev_n (fr' := (73, [some (vr 132), some (vi (opI (· ||| ·) 1 (opI fShl 1 ((n - 1 : Nat) : Int)))), some (vi (k : Int))], [vi 0])) (S' := MS I J cc ss) 1 rfl ?_
    refine ev_r rfl rfl rfl ?_
    exact ⟨_, _, _, rfl, rfl, rfl, rfl, Or.inl ⟨rfl, fun y x h q => by
      have hy := hGn _ _ h
      rcases q with q | q | q | q
      · rw [q, z0] at h; cases h
      · have := (hq y (by omega)).1; rw [q, this] at h; cases h
      · rw [show y = n - 1 by omega, z1] at h; cases h
      · have := (hq y (by omega)).2; rw [show x = n - 1 by omega, this] at h; cases h⟩⟩
  · show Ev X k_X7_groupTouchesEdge (53, [some (vr 132), some (vi (opI (· ||| ·) 1 (opI fShl 1 ((n - 1 : Nat) : Int)))), some (vi (k : Int))], []) (MS I J cc ss) _
    refine ev_n (fr' := (58, [some (vr 132), some (vi (opI (· ||| ·) 1 (opI fShl 1 ((n - 1 : Nat) : Int)))), some (vi (k : Int))], [vi (k : Int), vr 134])) (S' := MS I J cc ss) 3 rfl ?_
    refine ev_iaN (j := k) (z := (I 134 k)) rfl rfl (by omega) (by omega) (rfl) ?_
    show Ev X k_X7_groupTouchesEdge (59, [some (vr 132), some (vi (opI (· ||| ·) 1 (opI fShl 1 ((n - 1 : Nat) : Int)))), some (vi (k : Int))], [vi (I 134 k)]) (MS I J cc ss) _
    refine ev_n (fr' := (61, [some (vr 132), some (vi (opI (· ||| ·) 1 (opI fShl 1 ((n - 1 : Nat) : Int)))), some (vi (k : Int))], [vi (opI (· &&& ·) (I 134 k) (opI (· ||| ·) 1 (opI fShl 1 ((n - 1 : Nat) : Int))))])) (S' := MS I J cc ss) 2 rfl ?_
    refine ev_if (c := .eq) (off := 5) rfl (by decide) (fun (g2 : (opI (· &&& ·) (I 134 k) (opI (· ||| ·) 1 (opI fShl 1 ((n - 1 : Nat) : Int)))) = 0) => ?_) (fun (g2 : ¬ ((opI (· &&& ·) (I 134 k) (opI (· ||| ·) 1 (opI fShl 1 ((n - 1 : Nat) : Int)))) = 0)) => ?_)
    · show Ev X k_X7_groupTouchesEdge (66, [some (vr 132), some (vi (opI (· ||| ·) 1 (opI fShl 1 ((n - 1 : Nat) : Int)))), some (vi (k : Int))], []) (MS I J cc ss) _
      refine ev_inc (z := (k : Int) + 1) rfl rfl (by omega) (by omega) (by omega) rfl ?_
      show Ev X k_X7_groupTouchesEdge (69, [some (vr 132), some (vi (opI (· ||| ·) 1 (opI fShl 1 ((n - 1 : Nat) : Int)))), some (vi ((k : Int) + 1))], []) (MS I J cc ss) _
      refine ev_n (fr' := (45, [some (vr 132), some (vi (opI (· ||| ·) 1 (opI fShl 1 ((n - 1 : Nat) : Int)))), some (vi ((k : Int) + 1))], [])) (S' := MS I J cc ss) 1 rfl ?_
      exact lp_touch X _ _ cc ss hn hn32 hG hGn z0 z1 (k + 1) (by omega) (nlt_succ hq (touch_row hn32 hG (by omega) (by first | exact g2 | exact Decidable.of_not_not g2)))
    · show Ev X k_X7_groupTouchesEdge (64, [some (vr 132), some (vi (opI (· ||| ·) 1 (opI fShl 1 ((n - 1 : Nat) : Int)))), some (vi (k : Int))], []) (MS I J cc ss) _
      refine ev_n (fr' := (65, [some (vr 132), some (vi (opI (· ||| ·) 1 (opI fShl 1 ((n - 1 : Nat) : Int)))), some (vi (k : Int))], [vi 1])) (S' := MS I J cc ss) 1 rfl ?_
      refine ev_r rfl rfl rfl ?_
      obtain ⟨c, hc, hb⟩ := nz_bit (opI_rng _ _ _) g2
      rw [bt_and, (hG.1 k (by omega)).2 c hc, edges_bit hn32 hc, Bool.and_eq_true, decide_eq_true_eq] at hb
      exact ⟨_, _, _, rfl, rfl, rfl, rfl, Or.inr ⟨rfl, k, c, hb.1, by unfold edgB; omega⟩⟩
termination_by 33 - k
decreasing_by all_goals omega
theorem sp_touch (X : AX) (I J : Nat → Nat → Int) (cc ss : Nat) {G : B2} {n : Nat} (hn : I 132 2 = (n : Int)) (hn32 : 0 < n ∧ n ≤ 32) (hG : TR I 134 G) (hGn : ∀ y x, G y x = true → y < n ∧ x < n) : Ev X k_X7_groupTouchesEdge (0, [some (vr 132), none, none], []) (MS I J cc ss) (PZ cc ss (fun z I' J' => I' = I ∧ J' = J ∧ TouchP G n z)) := by
  refine ev_n (fr' := (4, [some (vr 132), none, none], [vi (I 132 2)])) (S' := MS I J cc ss) 2 rfl ?_
  refine ev_eqi (hn) ?_
  show Ev X k_X7_groupTouchesEdge (4, [some (vr 132), none, none], [vi (n : Int)]) (MS I J cc ss) _
  refine ev_if (c := .le) (off := 26) rfl (by decide) (fun (g1 : (n : Int) ≤ 0) => False.elim (by omega)) (fun (g1 : ¬ ((n : Int) ≤ 0)) => ?_)
  show Ev X k_X7_groupTouchesEdge (7, [some (vr 132), none, none], []) (MS I J cc ss) _
  refine ev_n (fr' := (12, [some (vr 132), none, none], [vi 0, vr 134])) (S' := MS I J cc ss) 3 rfl ?_
  refine ev_iaN (j := 0) (z := (I 134 0)) rfl rfl (by omega) (by omega) (rfl) ?_
  show Ev X k_X7_groupTouchesEdge (13, [some (vr 132), none, none], [vi (I 134 0)]) (MS I J cc ss) _
  refine ev_if (c := .ne) (off := 17) rfl (by decide) (fun (g2 : (I 134 0) ≠ 0) => ?_) (fun (g2 : ¬ ((I 134 0) ≠ 0)) => ?_)
  · show Ev X k_X7_groupTouchesEdge (30, [some (vr 132), none, none], []) (MS I J cc ss) _
    refine ev_n (fr' := (31, [some (vr 132), none, none], [vi 1])) (S' := MS I J cc ss) 1 rfl ?_
    refine ev_r rfl rfl rfl ?_
    refine ⟨_, _, _, rfl, rfl, rfl, rfl, Or.inr ⟨rfl, ?_⟩⟩
    obtain ⟨c, hc, hb⟩ := nz_bit (hG.1 0 (by omega)).1 g2
    rw [(hG.1 0 (by omega)).2 c hc] at hb
    exact ⟨0, c, hb, by unfold edgB; omega⟩
  · show Ev X k_X7_groupTouchesEdge (16, [some (vr 132), none, none], []) (MS I J cc ss) _
    refine ev_n (fr' := (24, [some (vr 132), none, none], [vi (I 132 2), vr 134])) (S' := MS I J cc ss) 4 rfl ?_
    refine ev_eqi (hn) ?_
    show Ev X k_X7_groupTouchesEdge (24, [some (vr 132), none, none], [vi (n : Int), vr 134]) (MS I J cc ss) _
    refine ev_n (fr' := (25, [some (vr 132), none, none], [vi 1, vi (n : Int), vr 134])) (S' := MS I J cc ss) 1 rfl ?_
    refine ev_sub (z := (n : Int) - 1) rfl (by omega) (by omega) (by omega) ?_
    show Ev X k_X7_groupTouchesEdge (26, [some (vr 132), none, none], [vi ((n : Int) - 1), vr 134]) (MS I J cc ss) _
    refine ev_iaN (j := n - 1) (z := (I 134 (n - 1))) rfl rfl (by omega) (by omega) (rfl) ?_
    show Ev X k_X7_groupTouchesEdge (27, [some (vr 132), none, none], [vi (I 134 (n - 1))]) (MS I J cc ss) _
    refine ev_if (c := .eq) (off := 5) rfl (by decide) (fun (g3 : (I 134 (n - 1)) = 0) => ?_) (fun (g3 : ¬ ((I 134 (n - 1)) = 0)) => ?_)
    · show Ev X k_X7_groupTouchesEdge (32, [some (vr 132), none, none], []) (MS I J cc ss) _
      refine ev_n (fr' := (38, [some (vr 132), none, none], [vi (I 132 2), vi 1, vi 1])) (S' := MS I J cc ss) 4 rfl ?_
      refine ev_eqi (hn) ?_
      show Ev X k_X7_groupTouchesEdge (38, [some (vr 132), none, none], [vi (n : Int), vi 1, vi 1]) (MS I J cc ss) _
      refine ev_n (fr' := (39, [some (vr 132), none, none], [vi 1, vi (n : Int), vi 1, vi 1])) (S' := MS I J cc ss) 1 rfl ?_
      refine ev_sub (z := (n : Int) - 1) rfl (by omega) (by omega) (by omega) ?_
      show Ev X k_X7_groupTouchesEdge (40, [some (vr 132), none, none], [vi ((n : Int) - 1), vi 1, vi 1]) (MS I J cc ss) _
      refine ev_eqi (show (n : Int) - 1 = ((n - 1 : Nat) : Int) from by omega) ?_
      show Ev X k_X7_groupTouchesEdge (40, [some (vr 132), none, none], [vi ((n - 1 : Nat) : Int), vi 1, vi 1]) (MS I J cc ss) _
      refine ev_n (fr' := (45, [some (vr 132), some (vi (opI (· ||| ·) 1 (opI fShl 1 ((n - 1 : Nat) : Int)))), some (vi 0)], [])) (S' := MS I J cc ss) 5 rfl ?_
      exact lp_touch X _ _ cc ss hn hn32 hG hGn ((hG.zero (by omega)).mp (Decidable.of_not_not g2)) ((hG.zero (by omega)).mp (by first | exact g3 | exact Decidable.of_not_not g3)) 0 (by omega) (fun q h => absurd h (by omega))
    · show Ev X k_X7_groupTouchesEdge (30, [some (vr 132), none, none], []) (MS I J cc ss) _
      refine ev_n (fr' := (31, [some (vr 132), none, none], [vi 1])) (S' := MS I J cc ss) 1 rfl ?_
      refine ev_r rfl rfl rfl ?_
      refine ⟨_, _, _, rfl, rfl, rfl, rfl, Or.inr ⟨rfl, ?_⟩⟩
      obtain ⟨c, hc, hb⟩ := nz_bit (hG.1 (n - 1) (by omega)).1 g3
      rw [(hG.1 (n - 1) (by omega)).2 c hc] at hb
      exact ⟨(n - 1), c, hb, by unfold edgB; omega⟩
theorem li_cg1 (X : AX) (I J : Nat → Nat → Int) (cc ss : Nat) {Q : (Option AV ⊕ Nat) → AS → Prop} {O : B2} {n : Nat} (I0 : F2) (hn : I 132 2 = (n : Int)) (hn32 : n ≤ 32) (hon : ∀ y x, O y x = true → y < n ∧ x < n) (hF : only33 I0 I) (k : Nat) (hk : k < n) (j : Nat) (z : Int) (hj : j ≤ n) (hz : z = grQ n true false O (k * n + j)) (hO : TR I 133 (opQ n true O (k * n + j))) (K : ∀ (I' : F2) (j : Nat) (z : Int), j = n → I' 132 2 = (n : Int) → only33 I0 I' → z = grQ n true false O (k * n + j) → TR I' 133 (opQ n true O (k * n + j)) → Ev X k_X7_countGroups (73, [some (vr 132), some (vi 1), some (vi 0), some (vi z), some (vi (k : Int)), some (vi (j : Int))], []) (MS I' J cc ss) Q) : Ev X k_X7_countGroups (17, [some (vr 132), some (vi 1), some (vi 0), some (vi z), some (vi (k : Int)), some (vi (j : Int))], []) (MS I J cc ss) (Q) := by
  have hzr := grQ_rng (n := n) (dg := true) (ins := false) (O := O) (k * n + j)
  have hkn : k * n ≤ 32 * 32 := Nat.mul_le_mul (by omega) hn32
  refine ev_n (fr' := (23, [some (vr 132), some (vi 1), some (vi 0), some (vi z), some (vi (k : Int)), some (vi (j : Int))], [vi (I 132 2), vi (j : Int)])) (S' := MS I J cc ss) 3 rfl ?_
  refine ev_eqi (hn) ?_
  show Ev X k_X7_countGroups (23, [some (vr 132), some (vi 1), some (vi 0), some (vi z), some (vi (k : Int)), some (vi (j : Int))], [vi (n : Int), vi (j : Int)]) (MS I J cc ss) _
  refine ev_ic (c := .ge) (off := 50) rfl (by decide) (fun (g1 : (n : Int) ≤ (j : Int)) => ?_) (fun (g1 : ¬ ((n : Int) ≤ (j : Int))) => ?_)
  · show Ev X k_X7_countGroups (73, [some (vr 132), some (vi 1), some (vi 0), some (vi z), some (vi (k : Int)), some (vi (j : Int))], []) (MS I J cc ss) _
    exact K I j z (by omega) hn hF hz hO
  · show Ev X k_X7_countGroups (26, [some (vr 132), some (vi 1), some (vi 0), some (vi z), some (vi (k : Int)), some (vi (j : Int))], []) (MS I J cc ss) _
    refine ev_n (fr' := (32, [some (vr 132), some (vi 1), some (vi 0), some (vi z), some (vi (k : Int)), some (vi (j : Int))], [vi (k : Int), vr 133])) (S' := MS I J cc ss) 3 rfl ?_
    refine ev_iaN (j := k) (z := (I 133 k)) rfl rfl (by omega) (by omega) (rfl) ?_
    show Ev X k_X7_countGroups (33, [some (vr 132), some (vi 1), some (vi 0), some (vi z), some (vi (k : Int)), some (vi (j : Int))], [vi (I 133 k)]) (MS I J cc ss) _
    refine ev_n (fr' := (38, [some (vr 132), some (vi 1), some (vi 0), some (vi z), some (vi (k : Int)), some (vi (j : Int))], [vi (opI (· &&& ·) (opI fUsh (I 133 k) (j : Int)) 1)])) (S' := MS I J cc ss) 4 rfl ?_
    refine ev_eqi (show (opI (· &&& ·) (opI fUsh (I 133 k) (j : Int)) 1) = (if bt (I 133 k) j = true then 1 else 0) from ush_and1 (by omega) _) ?_
    show Ev X k_X7_countGroups (38, [some (vr 132), some (vi 1), some (vi 0), some (vi z), some (vi (k : Int)), some (vi (j : Int))], [vi (if bt (I 133 k) j = true then 1 else 0)]) (MS I J cc ss) _
    refine ev_bne _ rfl (by decide) (fun (g2 : bt (I 133 k) j = true) => ?_) (fun (g2 : ¬ (bt (I 133 k) j = true)) => ?_)
    · show Ev X k_X7_countGroups (44, [some (vr 132), some (vi 1), some (vi 0), some (vi z), some (vi (k : Int)), some (vi (j : Int))], []) (MS I J cc ss) _
      have hs : opQ n true O (k * n + j) k j = true := by rw [← (hO.1 k (by omega)).2 j (by omega)]; exact g2
      refine ev_n (fr' := (50, [some (vr 132), some (vi 1), some (vi 0), some (vi z), some (vi (k : Int)), some (vi (j : Int))], [vi 1, vi (j : Int), vi (k : Int), vr 132])) (S' := MS I J cc ss) 4 rfl ?_
      refine ev_cp rfl rfl rfl ⟨Nat.le_of_ble_eq_true rfl, Nat.le_of_ble_eq_true rfl⟩ (sp_takeGroup1 X _ _ _ _ k j hn hn32 hO (fun y x h => (hon _ _ (opQ_sub _ _ _ h)).1) hs) (fun I1 J q2 => ?_)
      obtain ⟨rfl, rI1, hn, G, hgr, hG, hO1⟩ := q2
      show Ev X k_X7_countGroups (53, [some (vr 132), some (vi 1), some (vi 0), some (vi z), some (vi (k : Int)), some (vi (j : Int))], []) (MS I1 J cc ss) _
      have hF := hF.trans rI1
      have hGn : ∀ y x, G y x = true → y < n ∧ x < n := fun y x h => hon _ _ (opQ_sub _ _ _ (Rch.inO hs (hgr.2.1 y x h)))
      have hO2 := hO1.congr (fun y x => (goneB_eq hgr y x).symm)
      rw [← opQ_yes (by omega) hs] at hO2
      refine ev_n (fr' := (64, [some (vr 132), some (vi 1), some (vi 0), some (vi z), some (vi (k : Int)), some (vi (j : Int))], [])) (S' := MS I1 J cc ss) 2 rfl ?_
      refine ev_inc (z := z + 1) rfl rfl (by omega) (by omega) (by omega) rfl ?_
      show Ev X k_X7_countGroups (67, [some (vr 132), some (vi 1), some (vi 0), some (vi (z + 1)), some (vi (k : Int)), some (vi (j : Int))], []) (MS I1 J cc ss) _
      refine ev_inc (z := (j : Int) + 1) rfl rfl (by omega) (by omega) (by omega) rfl ?_
      show Ev X k_X7_countGroups (70, [some (vr 132), some (vi 1), some (vi 0), some (vi (z + 1)), some (vi (k : Int)), some (vi ((j : Int) + 1))], []) (MS I1 J cc ss) _
      refine ev_n (fr' := (17, [some (vr 132), some (vi 1), some (vi 0), some (vi (z + 1)), some (vi (k : Int)), some (vi ((j : Int) + 1))], [])) (S' := MS I1 J cc ss) 1 rfl ?_
      exact li_cg1 X _ _ cc ss I0 hn hn32 hon hF k hk (j + 1) _ (by omega) (by rw [← Nat.add_assoc, grQ_yes (z := 1) (by omega) hs hgr (Or.inl ⟨rfl, Or.inl rfl⟩), hz]) hO2 K
    · show Ev X k_X7_countGroups (41, [some (vr 132), some (vi 1), some (vi 0), some (vi z), some (vi (k : Int)), some (vi (j : Int))], []) (MS I J cc ss) _
      have hs : opQ n true O (k * n + j) k j = false := by rw [← (hO.1 k (by omega)).2 j (by omega)]; exact Bool.not_eq_true _ ▸ g2
      refine ev_n (fr' := (67, [some (vr 132), some (vi 1), some (vi 0), some (vi z), some (vi (k : Int)), some (vi (j : Int))], [])) (S' := MS I J cc ss) 1 rfl ?_
      refine ev_inc (z := (j : Int) + 1) rfl rfl (by omega) (by omega) (by omega) rfl ?_
      show Ev X k_X7_countGroups (70, [some (vr 132), some (vi 1), some (vi 0), some (vi z), some (vi (k : Int)), some (vi ((j : Int) + 1))], []) (MS I J cc ss) _
      refine ev_n (fr' := (17, [some (vr 132), some (vi 1), some (vi 0), some (vi z), some (vi (k : Int)), some (vi ((j : Int) + 1))], [])) (S' := MS I J cc ss) 1 rfl ?_
      exact li_cg1 X _ _ cc ss I0 hn hn32 hon hF k hk (j + 1) _ (by omega) (by rw [hz]; exact (grQ_no (by omega) hs).symm) (by rw [← Nat.add_assoc, opQ_no (by omega) hs]; exact hO) K
termination_by 33 - j
decreasing_by all_goals omega
theorem lp_cg1 (X : AX) (I J : Nat → Nat → Int) (cc ss : Nat) {O : B2} {n : Nat} (I0 : F2) (hn : I 132 2 = (n : Int)) (hn32 : n ≤ 32) (hon : ∀ y x, O y x = true → y < n ∧ x < n) (hF : only33 I0 I) (k : Nat) (z : Int) (v5 : Option AV) (hk : k ≤ n) (hz : z = grQ n true false O (k * n)) (hO : TR I 133 (opQ n true O (k * n))) : Ev X k_X7_countGroups (5, [some (vr 132), some (vi 1), some (vi 0), some (vi z), some (vi (k : Int)), v5], []) (MS I J cc ss) (PZ cc ss (fun z I' J' => J' = J ∧ only33 I0 I' ∧ z = grpF n true false O)) := by
  refine ev_n (fr' := (11, [some (vr 132), some (vi 1), some (vi 0), some (vi z), some (vi (k : Int)), v5], [vi (I 132 2), vi (k : Int)])) (S' := MS I J cc ss) 3 rfl ?_
  refine ev_eqi (hn) ?_
  show Ev X k_X7_countGroups (11, [some (vr 132), some (vi 1), some (vi 0), some (vi z), some (vi (k : Int)), v5], [vi (n : Int), vi (k : Int)]) (MS I J cc ss) _
  refine ev_ic (c := .ge) (off := 68) rfl (by decide) (fun (g1 : (n : Int) ≤ (k : Int)) => ?_) (fun (g1 : ¬ ((n : Int) ≤ (k : Int))) => ?_)
  · show Ev X k_X7_countGroups (79, [some (vr 132), some (vi 1), some (vi 0), some (vi z), some (vi (k : Int)), v5], []) (MS I J cc ss) _
    refine ev_n (fr' := (80, [some (vr 132), some (vi 1), some (vi 0), some (vi z), some (vi (k : Int)), v5], [vi z])) (S' := MS I J cc ss) 1 rfl ?_
    refine ev_r rfl rfl rfl ?_
    exact ⟨_, _, _, rfl, rfl, rfl, hF, by rw [hz, show k = n by omega]; rfl⟩
  · show Ev X k_X7_countGroups (14, [some (vr 132), some (vi 1), some (vi 0), some (vi z), some (vi (k : Int)), v5], []) (MS I J cc ss) _
    refine ev_n (fr' := (17, [some (vr 132), some (vi 1), some (vi 0), some (vi z), some (vi (k : Int)), some (vi 0)], [])) (S' := MS I J cc ss) 2 rfl ?_
    refine li_cg1 X _ _ cc ss I0 hn hn32 hon hF k (by omega) 0 z (by omega) hz hO (fun I1 j z hj hn hF hz hO => ?_)
    show Ev X k_X7_countGroups (73, [some (vr 132), some (vi 1), some (vi 0), some (vi z), some (vi (k : Int)), some (vi (j : Int))], []) (MS I1 J cc ss) _
    refine ev_inc (z := (k : Int) + 1) rfl rfl (by omega) (by omega) (by omega) rfl ?_
    show Ev X k_X7_countGroups (76, [some (vr 132), some (vi 1), some (vi 0), some (vi z), some (vi ((k : Int) + 1)), some (vi (j : Int))], []) (MS I1 J cc ss) _
    refine ev_n (fr' := (5, [some (vr 132), some (vi 1), some (vi 0), some (vi z), some (vi ((k : Int) + 1)), some (vi (j : Int))], [])) (S' := MS I1 J cc ss) 1 rfl ?_
    exact lp_cg1 X _ _ cc ss I0 hn hn32 hon hF (k + 1) _ _ (by omega) (by rw [hz, hj, Nat.succ_mul]) (by rw [Nat.succ_mul, ← hj]; rw [hj] at hO ⊢; exact hO)
termination_by 33 - k
decreasing_by all_goals omega
theorem sp_countGroups1 (X : AX) (I J : Nat → Nat → Int) (cc ss : Nat) {O : B2} {n : Nat} (hn : I 132 2 = (n : Int)) (hn32 : n ≤ 32) (hon : ∀ y x, O y x = true → y < n ∧ x < n) (hO : TR I 133 O) : Ev X k_X7_countGroups (0, [some (vr 132), some (vi 1), some (vi 0), none, none, none], []) (MS I J cc ss) (PZ cc ss (fun z I' J' => J' = J ∧ only33 I I' ∧ z = grpF n true false O)) := by
  refine ev_n (fr' := (5, [some (vr 132), some (vi 1), some (vi 0), some (vi 0), some (vi 0), none], [])) (S' := MS I J cc ss) 4 rfl ?_
  exact lp_cg1 X _ _ cc ss I hn hn32 hon (fun _ _ _ => rfl) 0 0 _ (by omega) (by rw [Nat.zero_mul]; rfl) (by rw [Nat.zero_mul]; exact hO)
theorem li_cg0 (X : AX) (I J : Nat → Nat → Int) (cc ss : Nat) {Q : (Option AV ⊕ Nat) → AS → Prop} {O : B2} {n : Nat} (I0 : F2) (hn : I 132 2 = (n : Int)) (hn32 : n ≤ 32) (hon : ∀ y x, O y x = true → y < n ∧ x < n) (hF : only33 I0 I) (k : Nat) (hk : k < n) (j : Nat) (z : Int) (hj : j ≤ n) (hz : z = grQ n false true O (k * n + j)) (hO : TR I 133 (opQ n false O (k * n + j))) (K : ∀ (I' : F2) (j : Nat) (z : Int), j = n → I' 132 2 = (n : Int) → only33 I0 I' → z = grQ n false true O (k * n + j) → TR I' 133 (opQ n false O (k * n + j)) → Ev X k_X7_countGroups (73, [some (vr 132), some (vi 0), some (vi 1), some (vi z), some (vi (k : Int)), some (vi (j : Int))], []) (MS I' J cc ss) Q) : Ev X k_X7_countGroups (17, [some (vr 132), some (vi 0), some (vi 1), some (vi z), some (vi (k : Int)), some (vi (j : Int))], []) (MS I J cc ss) (Q) := by
  have hzr := grQ_rng (n := n) (dg := false) (ins := true) (O := O) (k * n + j)
  have hkn : k * n ≤ 32 * 32 := Nat.mul_le_mul (by omega) hn32
  refine ev_n (fr' := (23, [some (vr 132), some (vi 0), some (vi 1), some (vi z), some (vi (k : Int)), some (vi (j : Int))], [vi (I 132 2), vi (j : Int)])) (S' := MS I J cc ss) 3 rfl ?_
  refine ev_eqi (hn) ?_
  show Ev X k_X7_countGroups (23, [some (vr 132), some (vi 0), some (vi 1), some (vi z), some (vi (k : Int)), some (vi (j : Int))], [vi (n : Int), vi (j : Int)]) (MS I J cc ss) _
  refine ev_ic (c := .ge) (off := 50) rfl (by decide) (fun (g1 : (n : Int) ≤ (j : Int)) => ?_) (fun (g1 : ¬ ((n : Int) ≤ (j : Int))) => ?_)
  · show Ev X k_X7_countGroups (73, [some (vr 132), some (vi 0), some (vi 1), some (vi z), some (vi (k : Int)), some (vi (j : Int))], []) (MS I J cc ss) _
    exact K I j z (by omega) hn hF hz hO
  · show Ev X k_X7_countGroups (26, [some (vr 132), some (vi 0), some (vi 1), some (vi z), some (vi (k : Int)), some (vi (j : Int))], []) (MS I J cc ss) _
    refine ev_n (fr' := (32, [some (vr 132), some (vi 0), some (vi 1), some (vi z), some (vi (k : Int)), some (vi (j : Int))], [vi (k : Int), vr 133])) (S' := MS I J cc ss) 3 rfl ?_
    refine ev_iaN (j := k) (z := (I 133 k)) rfl rfl (by omega) (by omega) (rfl) ?_
    show Ev X k_X7_countGroups (33, [some (vr 132), some (vi 0), some (vi 1), some (vi z), some (vi (k : Int)), some (vi (j : Int))], [vi (I 133 k)]) (MS I J cc ss) _
    refine ev_n (fr' := (38, [some (vr 132), some (vi 0), some (vi 1), some (vi z), some (vi (k : Int)), some (vi (j : Int))], [vi (opI (· &&& ·) (opI fUsh (I 133 k) (j : Int)) 1)])) (S' := MS I J cc ss) 4 rfl ?_
    refine ev_eqi (show (opI (· &&& ·) (opI fUsh (I 133 k) (j : Int)) 1) = (if bt (I 133 k) j = true then 1 else 0) from ush_and1 (by omega) _) ?_
    show Ev X k_X7_countGroups (38, [some (vr 132), some (vi 0), some (vi 1), some (vi z), some (vi (k : Int)), some (vi (j : Int))], [vi (if bt (I 133 k) j = true then 1 else 0)]) (MS I J cc ss) _
    refine ev_bne _ rfl (by decide) (fun (g2 : bt (I 133 k) j = true) => ?_) (fun (g2 : ¬ (bt (I 133 k) j = true)) => ?_)
    · show Ev X k_X7_countGroups (44, [some (vr 132), some (vi 0), some (vi 1), some (vi z), some (vi (k : Int)), some (vi (j : Int))], []) (MS I J cc ss) _
      have hs : opQ n false O (k * n + j) k j = true := by rw [← (hO.1 k (by omega)).2 j (by omega)]; exact g2
      refine ev_n (fr' := (50, [some (vr 132), some (vi 0), some (vi 1), some (vi z), some (vi (k : Int)), some (vi (j : Int))], [vi 0, vi (j : Int), vi (k : Int), vr 132])) (S' := MS I J cc ss) 4 rfl ?_
      refine ev_cp rfl rfl rfl ⟨Nat.le_of_ble_eq_true rfl, Nat.le_of_ble_eq_true rfl⟩ (sp_takeGroup0 X _ _ _ _ k j hn hn32 hO (fun y x h => (hon _ _ (opQ_sub _ _ _ h)).1) hs) (fun I1 J q2 => ?_)
      obtain ⟨rfl, rI1, hn, G, hgr, hG, hO1⟩ := q2
      show Ev X k_X7_countGroups (53, [some (vr 132), some (vi 0), some (vi 1), some (vi z), some (vi (k : Int)), some (vi (j : Int))], []) (MS I1 J cc ss) _
      have hF := hF.trans rI1
      have hGn : ∀ y x, G y x = true → y < n ∧ x < n := fun y x h => hon _ _ (opQ_sub _ _ _ (Rch.inO hs (hgr.2.1 y x h)))
      have hO2 := hO1.congr (fun y x => (goneB_eq hgr y x).symm)
      rw [← opQ_yes (by omega) hs] at hO2
      refine ev_n (fr' := (58, [some (vr 132), some (vi 0), some (vi 1), some (vi z), some (vi (k : Int)), some (vi (j : Int))], [vr 132])) (S' := MS I1 J cc ss) 3 rfl ?_
      refine ev_cz rfl rfl rfl ⟨Nat.le_of_ble_eq_true rfl, Nat.le_of_ble_eq_true rfl⟩ (sp_touch X _ _ _ _ hn (by omega) hG hGn) (fun t I1 J q3 => ?_)
      obtain ⟨rfl, rfl, ht⟩ := q3
      show Ev X k_X7_countGroups (61, [some (vr 132), some (vi 0), some (vi 1), some (vi z), some (vi (k : Int)), some (vi (j : Int))], [vi t]) (MS I1 J cc ss) _
      refine ev_if (c := .ne) (off := 6) rfl (by decide) (fun (g3 : t ≠ 0) => ?_) (fun (g3 : ¬ (t ≠ 0)) => ?_)
      · show Ev X k_X7_countGroups (67, [some (vr 132), some (vi 0), some (vi 1), some (vi z), some (vi (k : Int)), some (vi (j : Int))], []) (MS I1 J cc ss) _
        refine ev_inc (z := (j : Int) + 1) rfl rfl (by omega) (by omega) (by omega) rfl ?_
        show Ev X k_X7_countGroups (70, [some (vr 132), some (vi 0), some (vi 1), some (vi z), some (vi (k : Int)), some (vi ((j : Int) + 1))], []) (MS I1 J cc ss) _
        refine ev_n (fr' := (17, [some (vr 132), some (vi 0), some (vi 1), some (vi z), some (vi (k : Int)), some (vi ((j : Int) + 1))], [])) (S' := MS I1 J cc ss) 1 rfl ?_
        exact li_cg0 X _ _ cc ss I0 hn hn32 hon hF k hk (j + 1) _ (by omega) (by rw [← Nat.add_assoc, grQ_yes (z := 0) (by omega) hs hgr (Or.inr ⟨rfl, rfl, by rcases ht with q | q; exfalso; omega; exact q.2⟩), hz, Int.add_zero]) hO2 K
      · show Ev X k_X7_countGroups (64, [some (vr 132), some (vi 0), some (vi 1), some (vi z), some (vi (k : Int)), some (vi (j : Int))], []) (MS I1 J cc ss) _
        refine ev_inc (z := z + 1) rfl rfl (by omega) (by omega) (by omega) rfl ?_
        show Ev X k_X7_countGroups (67, [some (vr 132), some (vi 0), some (vi 1), some (vi (z + 1)), some (vi (k : Int)), some (vi (j : Int))], []) (MS I1 J cc ss) _
        refine ev_inc (z := (j : Int) + 1) rfl rfl (by omega) (by omega) (by omega) rfl ?_
        show Ev X k_X7_countGroups (70, [some (vr 132), some (vi 0), some (vi 1), some (vi (z + 1)), some (vi (k : Int)), some (vi ((j : Int) + 1))], []) (MS I1 J cc ss) _
        refine ev_n (fr' := (17, [some (vr 132), some (vi 0), some (vi 1), some (vi (z + 1)), some (vi (k : Int)), some (vi ((j : Int) + 1))], [])) (S' := MS I1 J cc ss) 1 rfl ?_
        exact li_cg0 X _ _ cc ss I0 hn hn32 hon hF k hk (j + 1) _ (by omega) (by rw [← Nat.add_assoc, grQ_yes (z := 1) (by omega) hs hgr (Or.inl ⟨rfl, Or.inr (by rcases ht with q | q; exact q.2; exfalso; omega)⟩), hz]) hO2 K
    · show Ev X k_X7_countGroups (41, [some (vr 132), some (vi 0), some (vi 1), some (vi z), some (vi (k : Int)), some (vi (j : Int))], []) (MS I J cc ss) _
      have hs : opQ n false O (k * n + j) k j = false := by rw [← (hO.1 k (by omega)).2 j (by omega)]; exact Bool.not_eq_true _ ▸ g2
      refine ev_n (fr' := (67, [some (vr 132), some (vi 0), some (vi 1), some (vi z), some (vi (k : Int)), some (vi (j : Int))], [])) (S' := MS I J cc ss) 1 rfl ?_
      refine ev_inc (z := (j : Int) + 1) rfl rfl (by omega) (by omega) (by omega) rfl ?_
      show Ev X k_X7_countGroups (70, [some (vr 132), some (vi 0), some (vi 1), some (vi z), some (vi (k : Int)), some (vi ((j : Int) + 1))], []) (MS I J cc ss) _
      refine ev_n (fr' := (17, [some (vr 132), some (vi 0), some (vi 1), some (vi z), some (vi (k : Int)), some (vi ((j : Int) + 1))], [])) (S' := MS I J cc ss) 1 rfl ?_
      exact li_cg0 X _ _ cc ss I0 hn hn32 hon hF k hk (j + 1) _ (by omega) (by rw [hz]; exact (grQ_no (by omega) hs).symm) (by rw [← Nat.add_assoc, opQ_no (by omega) hs]; exact hO) K
termination_by 33 - j
decreasing_by all_goals omega
theorem lp_cg0 (X : AX) (I J : Nat → Nat → Int) (cc ss : Nat) {O : B2} {n : Nat} (I0 : F2) (hn : I 132 2 = (n : Int)) (hn32 : n ≤ 32) (hon : ∀ y x, O y x = true → y < n ∧ x < n) (hF : only33 I0 I) (k : Nat) (z : Int) (v5 : Option AV) (hk : k ≤ n) (hz : z = grQ n false true O (k * n)) (hO : TR I 133 (opQ n false O (k * n))) : Ev X k_X7_countGroups (5, [some (vr 132), some (vi 0), some (vi 1), some (vi z), some (vi (k : Int)), v5], []) (MS I J cc ss) (PZ cc ss (fun z I' J' => J' = J ∧ only33 I0 I' ∧ z = grpF n false true O)) := by
  refine ev_n (fr' := (11, [some (vr 132), some (vi 0), some (vi 1), some (vi z), some (vi (k : Int)), v5], [vi (I 132 2), vi (k : Int)])) (S' := MS I J cc ss) 3 rfl ?_
  refine ev_eqi (hn) ?_
  show Ev X k_X7_countGroups (11, [some (vr 132), some (vi 0), some (vi 1), some (vi z), some (vi (k : Int)), v5], [vi (n : Int), vi (k : Int)]) (MS I J cc ss) _
  refine ev_ic (c := .ge) (off := 68) rfl (by decide) (fun (g1 : (n : Int) ≤ (k : Int)) => ?_) (fun (g1 : ¬ ((n : Int) ≤ (k : Int))) => ?_)
  · show Ev X k_X7_countGroups (79, [some (vr 132), some (vi 0), some (vi 1), some (vi z), some (vi (k : Int)), v5], []) (MS I J cc ss) _
    refine ev_n (fr' := (80, [some (vr 132), some (vi 0), some (vi 1), some (vi z), some (vi (k : Int)), v5], [vi z])) (S' := MS I J cc ss) 1 rfl ?_
    refine ev_r rfl rfl rfl ?_
    exact ⟨_, _, _, rfl, rfl, rfl, hF, by rw [hz, show k = n by omega]; rfl⟩
  · show Ev X k_X7_countGroups (14, [some (vr 132), some (vi 0), some (vi 1), some (vi z), some (vi (k : Int)), v5], []) (MS I J cc ss) _
    refine ev_n (fr' := (17, [some (vr 132), some (vi 0), some (vi 1), some (vi z), some (vi (k : Int)), some (vi 0)], [])) (S' := MS I J cc ss) 2 rfl ?_
    refine li_cg0 X _ _ cc ss I0 hn hn32 hon hF k (by omega) 0 z (by omega) hz hO (fun I1 j z hj hn hF hz hO => ?_)
    show Ev X k_X7_countGroups (73, [some (vr 132), some (vi 0), some (vi 1), some (vi z), some (vi (k : Int)), some (vi (j : Int))], []) (MS I1 J cc ss) _
    refine ev_inc (z := (k : Int) + 1) rfl rfl (by omega) (by omega) (by omega) rfl ?_
    show Ev X k_X7_countGroups (76, [some (vr 132), some (vi 0), some (vi 1), some (vi z), some (vi ((k : Int) + 1)), some (vi (j : Int))], []) (MS I1 J cc ss) _
    refine ev_n (fr' := (5, [some (vr 132), some (vi 0), some (vi 1), some (vi z), some (vi ((k : Int) + 1)), some (vi (j : Int))], [])) (S' := MS I1 J cc ss) 1 rfl ?_
    exact lp_cg0 X _ _ cc ss I0 hn hn32 hon hF (k + 1) _ _ (by omega) (by rw [hz, hj, Nat.succ_mul]) (by rw [Nat.succ_mul, ← hj]; rw [hj] at hO ⊢; exact hO)
termination_by 33 - k
decreasing_by all_goals omega
theorem sp_countGroups0 (X : AX) (I J : Nat → Nat → Int) (cc ss : Nat) {O : B2} {n : Nat} (hn : I 132 2 = (n : Int)) (hn32 : n ≤ 32) (hon : ∀ y x, O y x = true → y < n ∧ x < n) (hO : TR I 133 O) : Ev X k_X7_countGroups (0, [some (vr 132), some (vi 0), some (vi 1), none, none, none], []) (MS I J cc ss) (PZ cc ss (fun z I' J' => J' = J ∧ only33 I I' ∧ z = grpF n false true O)) := by
  refine ev_n (fr' := (5, [some (vr 132), some (vi 0), some (vi 1), some (vi 0), some (vi 0), none], [])) (S' := MS I J cc ss) 4 rfl ?_
  exact lp_cg0 X _ _ cc ss I hn hn32 hon (fun _ _ _ => rfl) 0 0 _ (by omega) (by rw [Nat.zero_mul]; rfl) (by rw [Nat.zero_mul]; exact hO)
