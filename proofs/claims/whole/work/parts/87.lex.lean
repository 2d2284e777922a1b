/-! THE CLASS'S WORDS AND NUMBERS (printed by gen/g87.py) -/
theorem sp_fail (X : AX) (I J : Nat → Nat → Int) (cc ss : Nat) (x y : Int) : Ev X k_X4_fail (0, [some (vr 111), some (vi x), some (vi y)], []) (MS I J cc ss) (fun o T => o = .inl (some (vi 0)) ∧ T = MS (up2 (up2 I 111 6 x) 111 7 y) J cc ss) := by
  refine ev_n (fr' := (2, [some (vr 111), some (vi x), some (vi y)], [vi x, vr 111])) (S' := MS I J cc ss) 2 rfl ?_
  refine ev_n (fr' := (5, [some (vr 111), some (vi x), some (vi y)], [])) (S' := MS (up2 I 111 6 x) J cc ss) 1 rfl ?_
  refine ev_n (fr' := (7, [some (vr 111), some (vi x), some (vi y)], [vi y, vr 111])) (S' := MS (up2 I 111 6 x) J cc ss) 2 rfl ?_
  refine ev_n (fr' := (10, [some (vr 111), some (vi x), some (vi y)], [])) (S' := MS (up2 (up2 I 111 6 x) 111 7 y) J cc ss) 1 rfl ?_
  refine ev_n (fr' := (11, [some (vr 111), some (vi x), some (vi y)], [vi 0])) (S' := MS (up2 (up2 I 111 6 x) 111 7 y) J cc ss) 1 rfl ?_
  refine ev_r rfl rfl rfl ?_
  exact ⟨rfl, rfl⟩
theorem nlt_succ2 {P : Nat → Prop} {q k : Nat} (h : ∀ j, q ≤ j → j < k → P j) (hk : P k) : ∀ j, q ≤ j → j < k + 1 → P j := fun j h1 h2 => (Nat.lt_succ_iff_lt_or_eq.mp h2).elim (h j h1) (fun e => e ▸ hk)
theorem lp_word (X : AX) (I J : Nat → Nat → Int) (cc ss : Nat) (I0 : F2) {tx : F1} {n : Nat} (hT : TB I tx n) (hn : I 111 2 = (n : Int)) (k : Nat) (hp : I 111 3 = (k : Int)) (hkn : k ≤ n) {q : Nat} (hq : I 111 4 = (q : Int)) (hqk : q ≤ k) (hL : leF tx n k = leF tx n q) (hall : ∀ j, q ≤ j → j < k → isLe (tx j) = true) (w : Int) (v3 : Option AV) (hw : w = if k - q ≤ 8 then nmF tx q (k - q) else 0) (hA : ∀ a, a ≠ 111 → I a = I0 a) (hB : ∀ f, f ≠ 3 → f ≠ 4 → I 111 f = I0 111 f) : Ev X k_X4_readWord (15, [some (vr 111), some (vl w), none, v3, none], []) (MS I J cc ss) (PV cc ss (some (vl (wdF tx n q))) (fun I' J' => J' = J ∧ (∀ a, a ≠ 111 → I' a = I0 a) ∧ (∀ f, f ≠ 3 → f ≠ 4 → I' 111 f = I0 111 f) ∧ I' 111 3 = (leF tx n q : Int) ∧ I' 111 4 = (q : Int))) := by
  have h900 := hT.le
  have hr := nmF_rng (tx := tx) (a := q) (k - q) (fun j h1 h2 => hall j h1 (by omega))
  have hp8 : k - q ≤ 8 → (32 ^ (k - q) : Nat) ≤ 1099511627776 := fun h => pow8 h
  refine ev_n (fr' := (19, [some (vr 111), some (vl w), none, v3, none], [vi (I 111 3)])) (S' := MS I J cc ss) 2 rfl ?_
  refine ev_eqi (hp) ?_
  show Ev X k_X4_readWord (19, [some (vr 111), some (vl w), none, v3, none], [vi (k : Int)]) (MS I J cc ss) _
  refine ev_n (fr' := (23, [some (vr 111), some (vl w), none, v3, none], [vi (I 111 2), vi (k : Int)])) (S' := MS I J cc ss) 2 rfl ?_
  refine ev_eqi (hn) ?_
  show Ev X k_X4_readWord (23, [some (vr 111), some (vl w), none, v3, none], [vi (n : Int), vi (k : Int)]) (MS I J cc ss) _
  refine ev_ic (c := .ge) (off := 75) rfl (by decide) (fun (g1 : (n : Int) ≤ (k : Int)) => ?_) (fun (g1 : ¬ ((n : Int) ≤ (k : Int))) => ?_)
  · show Ev X k_X4_readWord (98, [some (vr 111), some (vl w), none, v3, none], []) (MS I J cc ss) _
    refine ev_n (fr' := (99, [some (vr 111), some (vl w), none, v3, none], [vl w])) (S' := MS I J cc ss) 1 rfl ?_
    refine ev_r rfl rfl rfl ?_
    have hs : leF tx n k = k := by first | exact scF_end (by omega) | exact scF_not (decide_eq_false (by omega))
    rw [hs] at hL
    exact ⟨_, _, rfl, congrArg (fun z => Sum.inl (some (vl z))) (by unfold wdF; rw [hw, ← hL]), rfl, hA, hB, by rw [← hL]; exact hp, hq⟩
  · show Ev X k_X4_readWord (26, [some (vr 111), some (vl w), none, v3, none], []) (MS I J cc ss) _
    refine ev_n (fr' := (34, [some (vr 111), some (vl w), none, v3, none], [vi (I 111 3), vr 112])) (S' := MS I J cc ss) 4 rfl ?_
    refine ev_eqi (hp) ?_
    show Ev X k_X4_readWord (34, [some (vr 111), some (vl w), none, v3, none], [vi (k : Int), vr 112]) (MS I J cc ss) _
    refine ev_cv rfl rfl rfl ⟨Nat.le_of_ble_eq_true rfl, Nat.le_of_ble_eq_true rfl⟩ (sp_byteAt X _ _ _ _ hT k (by omega)) ?_
    show Ev X k_X4_readWord (37, [some (vr 111), some (vl w), none, v3, none], [vi (tx k)]) (MS I J cc ss) _
    refine ev_cv rfl rfl rfl ⟨Nat.le_of_ble_eq_true rfl, Nat.le_of_ble_eq_true rfl⟩ (sp_c_isLetter X _ (tx k) ) ?_
    show Ev X k_X4_readWord (40, [some (vr 111), some (vl w), none, v3, none], [vi (if 97 ≤ (tx k) ∧ (tx k) ≤ 122 then 1 else 0)]) (MS I J cc ss) _
    refine ev_beq _ rfl (by decide) (fun (g2 : ¬ (97 ≤ (tx k) ∧ (tx k) ≤ 122)) => ?_) (fun (g2 : 97 ≤ (tx k) ∧ (tx k) ≤ 122) => ?_)
    · show Ev X k_X4_readWord (98, [some (vr 111), some (vl w), none, v3, none], []) (MS I J cc ss) _
      refine ev_n (fr' := (99, [some (vr 111), some (vl w), none, v3, none], [vl w])) (S' := MS I J cc ss) 1 rfl ?_
      refine ev_r rfl rfl rfl ?_
      have hs : leF tx n k = k := by first | exact scF_end (by omega) | exact scF_not (decide_eq_false (by omega))
      rw [hs] at hL
      exact ⟨_, _, rfl, congrArg (fun z => Sum.inl (some (vl z))) (by unfold wdF; rw [hw, ← hL]), rfl, hA, hB, by rw [← hL]; exact hp, hq⟩
    · show Ev X k_X4_readWord (43, [some (vr 111), some (vl w), none, v3, none], []) (MS I J cc ss) _
      have ht := of_decide_eq_true (show isLe (tx k) = true from decide_eq_true (by omega))
      refine ev_n (fr' := (51, [some (vr 111), some (vl w), none, v3, none], [vi (I 111 3), vr 112])) (S' := MS I J cc ss) 4 rfl ?_
      refine ev_eqi (hp) ?_
      show Ev X k_X4_readWord (51, [some (vr 111), some (vl w), none, v3, none], [vi (k : Int), vr 112]) (MS I J cc ss) _
      refine ev_cv rfl rfl rfl ⟨Nat.le_of_ble_eq_true rfl, Nat.le_of_ble_eq_true rfl⟩ (sp_byteAt X _ _ _ _ hT k (by omega)) ?_
      show Ev X k_X4_readWord (54, [some (vr 111), some (vl w), none, v3, none], [vi (tx k)]) (MS I J cc ss) _
      refine ev_n (fr' := (56, [some (vr 111), some (vl w), none, v3, none], [vi 97, vi (tx k)])) (S' := MS I J cc ss) 1 rfl ?_
      refine ev_sub (z := (tx k) - 97) rfl (by omega) (by omega) (by omega) ?_
      show Ev X k_X4_readWord (57, [some (vr 111), some (vl w), none, v3, none], [vi ((tx k) - 97)]) (MS I J cc ss) _
      refine ev_n (fr' := (58, [some (vr 111), some (vl w), none, v3, none], [vi 1, vi ((tx k) - 97)])) (S' := MS I J cc ss) 1 rfl ?_
      refine ev_add (z := (tx k) - 96) rfl (by omega) (by omega) (by omega) ?_
      show Ev X k_X4_readWord (59, [some (vr 111), some (vl w), none, v3, none], [vi ((tx k) - 96)]) (MS I J cc ss) _
      refine ev_n (fr' := (65, [some (vr 111), some (vl w), none, some (vl ((tx k) - 96)), none], [vi (I 111 3)])) (S' := MS I J cc ss) 4 rfl ?_
      refine ev_eqi (hp) ?_
      show Ev X k_X4_readWord (65, [some (vr 111), some (vl w), none, some (vl ((tx k) - 96)), none], [vi (k : Int)]) (MS I J cc ss) _
      refine ev_n (fr' := (69, [some (vr 111), some (vl w), none, some (vl ((tx k) - 96)), none], [vi (I 111 4), vi (k : Int)])) (S' := MS I J cc ss) 2 rfl ?_
      refine ev_eqi (hq) ?_
      show Ev X k_X4_readWord (69, [some (vr 111), some (vl w), none, some (vl ((tx k) - 96)), none], [vi (q : Int), vi (k : Int)]) (MS I J cc ss) _
      refine ev_sub (z := (k : Int) - (q : Int)) rfl (by omega) (by omega) (by omega) ?_
      show Ev X k_X4_readWord (70, [some (vr 111), some (vl w), none, some (vl ((tx k) - 96)), none], [vi ((k : Int) - (q : Int))]) (MS I J cc ss) _
      refine ev_n (fr' := (72, [some (vr 111), some (vl w), none, some (vl ((tx k) - 96)), none], [vi 8, vi ((k : Int) - (q : Int))])) (S' := MS I J cc ss) 1 rfl ?_
      refine ev_ic (c := .ge) (off := 11) rfl (by decide) (fun (g3 : 8 ≤ (k : Int) - (q : Int)) => ?_) (fun (g3 : ¬ (8 ≤ (k : Int) - (q : Int))) => ?_)
      · show Ev X k_X4_readWord (83, [some (vr 111), some (vl w), none, some (vl ((tx k) - 96)), none], []) (MS I J cc ss) _
        refine ev_n (fr' := (90, [some (vr 111), some (vl 0), none, some (vl ((tx k) - 96)), none], [vi (I 111 3), vr 111])) (S' := MS I J cc ss) 5 rfl ?_
        refine ev_eqi (hp) ?_
        show Ev X k_X4_readWord (90, [some (vr 111), some (vl 0), none, some (vl ((tx k) - 96)), none], [vi (k : Int), vr 111]) (MS I J cc ss) _
        refine ev_n (fr' := (91, [some (vr 111), some (vl 0), none, some (vl ((tx k) - 96)), none], [vi 1, vi (k : Int), vr 111])) (S' := MS I J cc ss) 1 rfl ?_
        refine ev_add (z := (k : Int) + 1) rfl (by omega) (by omega) (by omega) ?_
        show Ev X k_X4_readWord (92, [some (vr 111), some (vl 0), none, some (vl ((tx k) - 96)), none], [vi ((k : Int) + 1), vr 111]) (MS I J cc ss) _
        refine ev_n (fr' := (95, [some (vr 111), some (vl 0), none, some (vl ((tx k) - 96)), none], [])) (S' := MS (up2 I 111 3 ((k : Int) + 1)) J cc ss) 1 rfl ?_
        refine ev_n (fr' := (15, [some (vr 111), some (vl 0), none, some (vl ((tx k) - 96)), none], [])) (S' := MS (up2 I 111 3 ((k : Int) + 1)) J cc ss) 1 rfl ?_
        have hs : leF tx n k = leF tx n (k + 1) := scF_step (by omega) (decide_eq_true (by omega))
        exact lp_word X _ J cc ss I0 (hT.cell (up2_row _ _ _ _ (by decide)) (up2_row _ _ _ _ (by decide))) ((up2_ne2 _ _ _ _ (by decide)).trans hn) (k + 1) (up2_same _ _ _ _) (by omega) ((up2_ne2 _ _ _ _ (by decide)).trans hq) (by omega) (hL.symm.trans hs).symm (nlt_succ2 hall (decide_eq_true (by omega))) _ _ (by
          rw [show k + 1 - q = (k - q) + 1 by omega]
          rw [if_neg (by omega)]) (fun a ha => (up2_row _ _ _ _ ha).trans (hA a ha)) (fun f hf h4 => (up2_ne2 _ _ _ _ hf).trans (hB f hf h4))
      · show Ev X k_X4_readWord (75, [some (vr 111), some (vl w), none, some (vl ((tx k) - 96)), none], []) (MS I J cc ss) _
        have hw9 : w = nmF tx q (k - q) := by rw [hw, if_pos (by omega)]
        have hp9 := hp8 (by omega)
        rw [hw9.symm] at hr
        have hr2 : w < 1099511627776 := by have := hr.2.1; omega
        refine ev_n (fr' := (80, [some (vr 111), some (vl w), none, some (vl ((tx k) - 96)), none], [vl (opL (· ||| ·) ((fLshl (Int64.ofInt w) (Int32.ofInt 5)).toInt) ((tx k) - 96))])) (S' := MS I J cc ss) 5 rfl ?_
        refine ev_eql (wd_step (w := w) (l := tx k - 96) (by omega) (by omega) (by omega) (by omega)) ?_
        show Ev X k_X4_readWord (80, [some (vr 111), some (vl w), none, some (vl ((tx k) - 96)), none], [vl (32 * w + (tx k - 96))]) (MS I J cc ss) _
        refine ev_n (fr' := (90, [some (vr 111), some (vl (32 * w + (tx k - 96))), none, some (vl ((tx k) - 96)), none], [vi (I 111 3), vr 111])) (S' := MS I J cc ss) 5 rfl ?_
        refine ev_eqi (hp) ?_
        show Ev X k_X4_readWord (90, [some (vr 111), some (vl (32 * w + (tx k - 96))), none, some (vl ((tx k) - 96)), none], [vi (k : Int), vr 111]) (MS I J cc ss) _
        refine ev_n (fr' := (91, [some (vr 111), some (vl (32 * w + (tx k - 96))), none, some (vl ((tx k) - 96)), none], [vi 1, vi (k : Int), vr 111])) (S' := MS I J cc ss) 1 rfl ?_
        refine ev_add (z := (k : Int) + 1) rfl (by omega) (by omega) (by omega) ?_
        show Ev X k_X4_readWord (92, [some (vr 111), some (vl (32 * w + (tx k - 96))), none, some (vl ((tx k) - 96)), none], [vi ((k : Int) + 1), vr 111]) (MS I J cc ss) _
        refine ev_n (fr' := (95, [some (vr 111), some (vl (32 * w + (tx k - 96))), none, some (vl ((tx k) - 96)), none], [])) (S' := MS (up2 I 111 3 ((k : Int) + 1)) J cc ss) 1 rfl ?_
        refine ev_n (fr' := (15, [some (vr 111), some (vl (32 * w + (tx k - 96))), none, some (vl ((tx k) - 96)), none], [])) (S' := MS (up2 I 111 3 ((k : Int) + 1)) J cc ss) 1 rfl ?_
        have hs : leF tx n k = leF tx n (k + 1) := scF_step (by omega) (decide_eq_true (by omega))
        exact lp_word X _ J cc ss I0 (hT.cell (up2_row _ _ _ _ (by decide)) (up2_row _ _ _ _ (by decide))) ((up2_ne2 _ _ _ _ (by decide)).trans hn) (k + 1) (up2_same _ _ _ _) (by omega) ((up2_ne2 _ _ _ _ (by decide)).trans hq) (by omega) (hL.symm.trans hs).symm (nlt_succ2 hall (decide_eq_true (by omega))) _ _ (by
          rw [show k + 1 - q = (k - q) + 1 by omega]
          rw [if_pos (by omega)]
          show _ = 32 * nmF tx q (k - q) + (tx (q + (k - q)) - 96)
          rw [show q + (k - q) = k by omega, hw9]) (fun a ha => (up2_row _ _ _ _ ha).trans (hA a ha)) (fun f hf h4 => (up2_ne2 _ _ _ _ hf).trans (hB f hf h4))
termination_by n - k
decreasing_by all_goals omega
theorem sp_readWord (X : AX) (I J : Nat → Nat → Int) (cc ss : Nat) {tx : F1} {n : Nat} (hT : TB I tx n) (hn : I 111 2 = (n : Int)) (k : Nat) (hp : I 111 3 = (k : Int)) (hkn : k ≤ n) : Ev X k_X4_readWord (0, [some (vr 111), none, none, none, none], []) (MS I J cc ss) (PV cc ss (some (vl (wdF tx n (spF tx n k)))) (fun I' J' => J' = J ∧ (∀ a, a ≠ 111 → I' a = I a) ∧ (∀ f, f ≠ 3 → f ≠ 4 → I' 111 f = I 111 f) ∧ I' 111 3 = (leF tx n (spF tx n k) : Int) ∧ I' 111 4 = (spF tx n k : Int))) := by
  refine ev_n (fr' := (1, [some (vr 111), none, none, none, none], [vr 111])) (S' := MS I J cc ss) 1 rfl ?_
  refine ev_cp rfl rfl rfl ⟨Nat.le_of_ble_eq_true rfl, Nat.le_of_ble_eq_true rfl⟩ (sp_peek X _ _ _ _ hT hn k hp hkn) (fun I1 J q2 => ?_)
  obtain ⟨rfl, rAI1, rBI1, hp⟩ := q2
  show Ev X k_X4_readWord (4, [some (vr 111), none, none, none, none], [vi (atF tx n (spF tx n k))]) (MS I1 J cc ss) _
  have hn := (rBI1 2 (by decide)).trans hn
  have hT := hT.cell (rAI1 112 (by decide)) (rAI1 113 (by decide))
  have hkn := spF_le (tx := tx) (n := n) k hkn
  refine ev_n (fr' := (10, [some (vr 111), none, none, none, none], [vi (I1 111 3), vr 111])) (S' := MS I1 J cc ss) 4 rfl ?_
  refine ev_eqi (hp) ?_
  show Ev X k_X4_readWord (10, [some (vr 111), none, none, none, none], [vi ((spF tx n k) : Int), vr 111]) (MS I1 J cc ss) _
  refine ev_n (fr' := (13, [some (vr 111), none, none, none, none], [])) (S' := MS (up2 I1 111 4 ((spF tx n k) : Int)) J cc ss) 1 rfl ?_
  refine ev_n (fr' := (15, [some (vr 111), some (vl 0), none, none, none], [])) (S' := MS (up2 I1 111 4 ((spF tx n k) : Int)) J cc ss) 2 rfl ?_
  refine (lp_word X _ J cc ss I (q := spF tx n k) (hT.cell (up2_row _ _ _ _ (by decide)) (up2_row _ _ _ _ (by decide))) ((up2_ne2 _ _ _ _ (by decide)).trans hn) (spF tx n k) ((up2_ne2 _ _ _ _ (by decide)).trans hp) hkn (up2_same _ _ _ _) (Nat.le_refl _) rfl (fun j h1 h2 => absurd h1 (by omega)) 0 _ (by rw [Nat.sub_self, if_pos (by omega)]; rfl) (fun a ha => (up2_row _ _ _ _ ha).trans (rAI1 a ha)) (fun f hf h4 => (up2_ne2 _ _ _ _ h4).trans (rBI1 f hf)))
/-- the number at p, with a minus where there may be one: its end and value, or the error -/
def sgF (neg : Bool) (x : Int) : Int := if neg = true then -x else x
theorem sgF_t (x : Int) : sgF true x = -x := rfl
theorem sgF_f (x : Int) : sgF false x = x := rfl
def pnU (tx : F1) (n : Nat) (neg : Bool) (lo hi : Int) (s : Nat) : (Nat × Int) ⊕ (Int × Nat) :=
  if diF tx n s = s then .inr (-2, s) else if lo ≤ sgF neg (nuF tx s (diF tx n s - s)) ∧ sgF neg (nuF tx s (diF tx n s - s)) ≤ hi then .inl (diF tx n s, sgF neg (nuF tx s (diF tx n s - s))) else .inr (-3, s)
def ngB (tx : F1) (n p : Nat) (lo : Int) : Bool := decide (lo < 0) && decide (atF tx n (spF tx n p) = 45)
def nsF (tx : F1) (n p : Nat) (lo : Int) : Nat := if ngB tx n p lo = true then spF tx n (spF tx n p + 1) else spF tx n p
def pnF (tx : F1) (n : Nat) (lo hi : Int) (p : Nat) : (Nat × Int) ⊕ (Int × Nat) := pnU tx n (ngB tx n p lo) lo hi (nsF tx n p lo)
def CNu (I I' : F2) (r : (Nat × Int) ⊕ (Int × Nat)) (n t : Nat) (z : Int) : Prop := onlyT I I' ∧ match r with
  | .inl (e, w) => z = 1 ∧ I' 111 3 = (e : Int) ∧ I' 111 5 = w ∧ e ≤ n ∧ I' 111 7 = I 111 7 ∧ I' 111 4 = (t : Int)
  | .inr (c, s) => z = 0 ∧ I' 111 6 = c ∧ I' 111 7 = (s : Int)
theorem lp_num0 (X : AX) (I J : Nat → Nat → Int) (cc ss : Nat) (I0 : F2) (lo hi : Int) (hlh : -1000 < lo ∧ hi < 1000) {tx : F1} {n : Nat} (hT : TB I tx n) (hn : I 111 2 = (n : Int)) (k : Nat) (hp : I 111 3 = (k : Int)) (hkn : k ≤ n) {q : Nat} (hq : I 111 4 = (q : Int)) (hqk : q ≤ k) (hL : diF tx n k = diF tx n q) (hall : ∀ j, q ≤ j → j < k → isDi (tx j) = true) (v : Int) (hv : v = if nuF tx q (k - q) < 1000 then nuF tx q (k - q) else 1000) (hA : ∀ a, a ≠ 111 → I a = I0 a) (hB : I 111 2 = I0 111 2) (hC : I 111 7 = I0 111 7) : Ev X k_X4_readNumber (49, [some (vr 111), some (vi lo), some (vi hi), some (vi 0), some (vi v)], []) (MS I J cc ss) (PZ cc ss (fun z I' J' => J' = J ∧ CNu I0 I' (pnU tx n false lo hi q) n q z)) := by
  have h900 := hT.le
  have hr := nuF_rng (tx := tx) (a := q) (k - q) (fun j h1 h2 => hall j h1 (by omega))
  have hv0 : 0 ≤ v ∧ v ≤ 1000 := by split at hv <;> omega
  refine ev_n (fr' := (53, [some (vr 111), some (vi lo), some (vi hi), some (vi 0), some (vi v)], [vi (I 111 3)])) (S' := MS I J cc ss) 2 rfl ?_
  refine ev_eqi (hp) ?_
  show Ev X k_X4_readNumber (53, [some (vr 111), some (vi lo), some (vi hi), some (vi 0), some (vi v)], [vi (k : Int)]) (MS I J cc ss) _
  refine ev_n (fr' := (57, [some (vr 111), some (vi lo), some (vi hi), some (vi 0), some (vi v)], [vi (I 111 2), vi (k : Int)])) (S' := MS I J cc ss) 2 rfl ?_
  refine ev_eqi (hn) ?_
  show Ev X k_X4_readNumber (57, [some (vr 111), some (vi lo), some (vi hi), some (vi 0), some (vi v)], [vi (n : Int), vi (k : Int)]) (MS I J cc ss) _
  refine ev_ic (c := .ge) (off := 61) rfl (by decide) (fun (g1 : (n : Int) ≤ (k : Int)) => ?_) (fun (g1 : ¬ ((n : Int) ≤ (k : Int))) => ?_)
  · show Ev X k_X4_readNumber (118, [some (vr 111), some (vi lo), some (vi hi), some (vi 0), some (vi v)], []) (MS I J cc ss) _
    refine ev_n (fr' := (122, [some (vr 111), some (vi lo), some (vi hi), some (vi 0), some (vi v)], [vi (I 111 3)])) (S' := MS I J cc ss) 2 rfl ?_
    refine ev_eqi (hp) ?_
    show Ev X k_X4_readNumber (122, [some (vr 111), some (vi lo), some (vi hi), some (vi 0), some (vi v)], [vi (k : Int)]) (MS I J cc ss) _
    refine ev_n (fr' := (126, [some (vr 111), some (vi lo), some (vi hi), some (vi 0), some (vi v)], [vi (I 111 4), vi (k : Int)])) (S' := MS I J cc ss) 2 rfl ?_
    refine ev_eqi (hq) ?_
    show Ev X k_X4_readNumber (126, [some (vr 111), some (vi lo), some (vi hi), some (vi 0), some (vi v)], [vi (q : Int), vi (k : Int)]) (MS I J cc ss) _
    refine ev_ic (c := .ne) (off := 14) rfl (by decide) (fun (g2 : (k : Int) ≠ (q : Int)) => ?_) (fun (g2 : ¬ ((k : Int) ≠ (q : Int))) => ?_)
    · show Ev X k_X4_readNumber (140, [some (vr 111), some (vi lo), some (vi hi), some (vi 0), some (vi v)], []) (MS I J cc ss) _
      refine ev_n (fr' := (153, [some (vr 111), some (vi lo), some (vi hi), some (vi 0), some (vi v)], [vi v, vr 111])) (S' := MS I J cc ss) 4 rfl ?_
      refine ev_n (fr' := (156, [some (vr 111), some (vi lo), some (vi hi), some (vi 0), some (vi v)], [])) (S' := MS (up2 I 111 5 v) J cc ss) 1 rfl ?_
      refine ev_n (fr' := (162, [some (vr 111), some (vi lo), some (vi hi), some (vi 0), some (vi v)], [vi hi, vi lo, vi v])) (S' := MS (up2 I 111 5 v) J cc ss) 4 rfl ?_
      refine ev_cv rfl rfl rfl ⟨Nat.le_of_ble_eq_true rfl, Nat.le_of_ble_eq_true rfl⟩ (sp_within X _ v lo hi ) ?_
      show Ev X k_X4_readNumber (165, [some (vr 111), some (vi lo), some (vi hi), some (vi 0), some (vi v)], [vi (if lo ≤ v ∧ v ≤ hi then 1 else 0)]) (MS (up2 I 111 5 v) J cc ss) _
      refine ev_bne _ rfl (by decide) (fun (g3 : lo ≤ v ∧ v ≤ hi) => ?_) (fun (g3 : ¬ (lo ≤ v ∧ v ≤ hi)) => ?_)
      · show Ev X k_X4_readNumber (181, [some (vr 111), some (vi lo), some (vi hi), some (vi 0), some (vi v)], []) (MS (up2 I 111 5 v) J cc ss) _
        refine ev_n (fr' := (186, [some (vr 111), some (vi lo), some (vi hi), some (vi 0), some (vi v)], [vi 1])) (S' := MS (up2 I 111 5 v) J cc ss) 2 rfl ?_
        refine ev_r rfl rfl rfl ?_
        have hs : diF tx n k = k := by first | exact scF_end (by omega) | exact scF_not (decide_eq_false (by omega))
        rw [hs] at hL
        have hvv : v = nuF tx q (k - q) := by split at hv <;> omega
        have hU : pnU tx n false lo hi q = .inl (k, v) := by
          unfold pnU; rw [if_neg (by omega), ← hL]
          rw [sgF_f]
          rw [← hvv, if_pos (by omega)]
        exact ⟨_, _, _, rfl, rfl, rfl, ⟨fun a ha => by rw [up2_row _ _ _ _ ha]; exact hA a ha, by rw [up2_ne2 _ _ _ _ (by decide)]; exact hB⟩, by rw [hU]; exact ⟨rfl, by rw [up2_ne2 _ _ _ _ (by decide)]; exact hp, up2_same _ _ _ _, hkn, (up2_ne2 _ _ _ _ (by decide)).trans hC, (up2_ne2 _ _ _ _ (by decide)).trans hq⟩⟩
      · show Ev X k_X4_readNumber (168, [some (vr 111), some (vi lo), some (vi hi), some (vi 0), some (vi v)], []) (MS (up2 I 111 5 v) J cc ss) _
        refine ev_n (fr' := (175, [some (vr 111), some (vi lo), some (vi hi), some (vi 0), some (vi v)], [vi (I 111 4), vi (-3), vr 111])) (S' := MS (up2 I 111 5 v) J cc ss) 4 rfl ?_
        refine ev_eqi (hq) ?_
        show Ev X k_X4_readNumber (175, [some (vr 111), some (vi lo), some (vi hi), some (vi 0), some (vi v)], [vi (q : Int), vi (-3), vr 111]) (MS (up2 I 111 5 v) J cc ss) _
        refine ev_cv rfl rfl rfl ⟨Nat.le_of_ble_eq_true rfl, Nat.le_of_ble_eq_true rfl⟩ (sp_fail X _ _ _ _ (-3) (q : Int)) ?_
        show Ev X k_X4_readNumber (178, [some (vr 111), some (vi lo), some (vi hi), some (vi 0), some (vi v)], [vi 0]) (MS (up2 (up2 (up2 I 111 5 v) 111 6 (-3)) 111 7 (q : Int)) J cc ss) _
        refine ev_n (fr' := (186, [some (vr 111), some (vi lo), some (vi hi), some (vi 0), some (vi v)], [vi 0])) (S' := MS (up2 (up2 (up2 I 111 5 v) 111 6 (-3)) 111 7 (q : Int)) J cc ss) 2 rfl ?_
        refine ev_r rfl rfl rfl ?_
        have hs : diF tx n k = k := by first | exact scF_end (by omega) | exact scF_not (decide_eq_false (by omega))
        rw [hs] at hL
        have hU : pnU tx n false lo hi q = .inr (-3, q) := by
          unfold pnU; rw [if_neg (by omega), ← hL]
          rw [sgF_f]
          rw [if_neg (by split at hv <;> omega)]
        exact ⟨_, _, _, rfl, rfl, rfl, ⟨fun a ha => by rw [up2_row _ _ _ _ ha, up2_row _ _ _ _ ha, up2_row _ _ _ _ ha]; exact hA a ha, by rw [up2_ne2 _ _ _ _ (by decide), up2_ne2 _ _ _ _ (by decide), up2_ne2 _ _ _ _ (by decide)]; exact hB⟩, by rw [hU]; exact ⟨rfl, by rw [up2_ne2 _ _ _ _ (by decide), up2_same], up2_same _ _ _ _⟩⟩
    · show Ev X k_X4_readNumber (129, [some (vr 111), some (vi lo), some (vi hi), some (vi 0), some (vi v)], []) (MS I J cc ss) _
      refine ev_n (fr' := (136, [some (vr 111), some (vi lo), some (vi hi), some (vi 0), some (vi v)], [vi (I 111 4), vi (-2), vr 111])) (S' := MS I J cc ss) 4 rfl ?_
      refine ev_eqi (hq) ?_
      show Ev X k_X4_readNumber (136, [some (vr 111), some (vi lo), some (vi hi), some (vi 0), some (vi v)], [vi (q : Int), vi (-2), vr 111]) (MS I J cc ss) _
      refine ev_cv rfl rfl rfl ⟨Nat.le_of_ble_eq_true rfl, Nat.le_of_ble_eq_true rfl⟩ (sp_fail X _ _ _ _ (-2) (q : Int)) ?_
      show Ev X k_X4_readNumber (139, [some (vr 111), some (vi lo), some (vi hi), some (vi 0), some (vi v)], [vi 0]) (MS (up2 (up2 I 111 6 (-2)) 111 7 (q : Int)) J cc ss) _
      refine ev_r rfl rfl rfl ?_
      have hs : diF tx n k = k := by first | exact scF_end (by omega) | exact scF_not (decide_eq_false (by omega))
      rw [hs] at hL
      have hU : pnU tx n false lo hi q = .inr (-2, q) := by unfold pnU; rw [if_pos (by omega)]
      exact ⟨_, _, _, rfl, rfl, rfl, ⟨fun a ha => by rw [up2_row _ _ _ _ ha, up2_row _ _ _ _ ha]; exact hA a ha, by rw [up2_ne2 _ _ _ _ (by decide), up2_ne2 _ _ _ _ (by decide)]; exact hB⟩, by rw [hU]; exact ⟨rfl, by rw [up2_ne2 _ _ _ _ (by decide), up2_same], up2_same _ _ _ _⟩⟩
  · show Ev X k_X4_readNumber (60, [some (vr 111), some (vi lo), some (vi hi), some (vi 0), some (vi v)], []) (MS I J cc ss) _
    refine ev_n (fr' := (68, [some (vr 111), some (vi lo), some (vi hi), some (vi 0), some (vi v)], [vi (I 111 3), vr 112])) (S' := MS I J cc ss) 4 rfl ?_
    refine ev_eqi (hp) ?_
    show Ev X k_X4_readNumber (68, [some (vr 111), some (vi lo), some (vi hi), some (vi 0), some (vi v)], [vi (k : Int), vr 112]) (MS I J cc ss) _
    refine ev_cv rfl rfl rfl ⟨Nat.le_of_ble_eq_true rfl, Nat.le_of_ble_eq_true rfl⟩ (sp_byteAt X _ _ _ _ hT k (by omega)) ?_
    show Ev X k_X4_readNumber (71, [some (vr 111), some (vi lo), some (vi hi), some (vi 0), some (vi v)], [vi (tx k)]) (MS I J cc ss) _
    refine ev_cv rfl rfl rfl ⟨Nat.le_of_ble_eq_true rfl, Nat.le_of_ble_eq_true rfl⟩ (sp_c_isDigit X _ (tx k) ) ?_
    show Ev X k_X4_readNumber (74, [some (vr 111), some (vi lo), some (vi hi), some (vi 0), some (vi v)], [vi (if 48 ≤ (tx k) ∧ (tx k) ≤ 57 then 1 else 0)]) (MS I J cc ss) _
    refine ev_beq _ rfl (by decide) (fun (g4 : ¬ (48 ≤ (tx k) ∧ (tx k) ≤ 57)) => ?_) (fun (g4 : 48 ≤ (tx k) ∧ (tx k) ≤ 57) => ?_)
    · show Ev X k_X4_readNumber (118, [some (vr 111), some (vi lo), some (vi hi), some (vi 0), some (vi v)], []) (MS I J cc ss) _
      refine ev_n (fr' := (122, [some (vr 111), some (vi lo), some (vi hi), some (vi 0), some (vi v)], [vi (I 111 3)])) (S' := MS I J cc ss) 2 rfl ?_
      refine ev_eqi (hp) ?_
      show Ev X k_X4_readNumber (122, [some (vr 111), some (vi lo), some (vi hi), some (vi 0), some (vi v)], [vi (k : Int)]) (MS I J cc ss) _
      refine ev_n (fr' := (126, [some (vr 111), some (vi lo), some (vi hi), some (vi 0), some (vi v)], [vi (I 111 4), vi (k : Int)])) (S' := MS I J cc ss) 2 rfl ?_
      refine ev_eqi (hq) ?_
      show Ev X k_X4_readNumber (126, [some (vr 111), some (vi lo), some (vi hi), some (vi 0), some (vi v)], [vi (q : Int), vi (k : Int)]) (MS I J cc ss) _
      refine ev_ic (c := .ne) (off := 14) rfl (by decide) (fun (g5 : (k : Int) ≠ (q : Int)) => ?_) (fun (g5 : ¬ ((k : Int) ≠ (q : Int))) => ?_)
      · show Ev X k_X4_readNumber (140, [some (vr 111), some (vi lo), some (vi hi), some (vi 0), some (vi v)], []) (MS I J cc ss) _
        refine ev_n (fr' := (153, [some (vr 111), some (vi lo), some (vi hi), some (vi 0), some (vi v)], [vi v, vr 111])) (S' := MS I J cc ss) 4 rfl ?_
        refine ev_n (fr' := (156, [some (vr 111), some (vi lo), some (vi hi), some (vi 0), some (vi v)], [])) (S' := MS (up2 I 111 5 v) J cc ss) 1 rfl ?_
        refine ev_n (fr' := (162, [some (vr 111), some (vi lo), some (vi hi), some (vi 0), some (vi v)], [vi hi, vi lo, vi v])) (S' := MS (up2 I 111 5 v) J cc ss) 4 rfl ?_
        refine ev_cv rfl rfl rfl ⟨Nat.le_of_ble_eq_true rfl, Nat.le_of_ble_eq_true rfl⟩ (sp_within X _ v lo hi ) ?_
        show Ev X k_X4_readNumber (165, [some (vr 111), some (vi lo), some (vi hi), some (vi 0), some (vi v)], [vi (if lo ≤ v ∧ v ≤ hi then 1 else 0)]) (MS (up2 I 111 5 v) J cc ss) _
        refine ev_bne _ rfl (by decide) (fun (g6 : lo ≤ v ∧ v ≤ hi) => ?_) (fun (g6 : ¬ (lo ≤ v ∧ v ≤ hi)) => ?_)
        · show Ev X k_X4_readNumber (181, [some (vr 111), some (vi lo), some (vi hi), some (vi 0), some (vi v)], []) (MS (up2 I 111 5 v) J cc ss) _
          refine ev_n (fr' := (186, [some (vr 111), some (vi lo), some (vi hi), some (vi 0), some (vi v)], [vi 1])) (S' := MS (up2 I 111 5 v) J cc ss) 2 rfl ?_
          refine ev_r rfl rfl rfl ?_
          have hs : diF tx n k = k := by first | exact scF_end (by omega) | exact scF_not (decide_eq_false (by omega))
          rw [hs] at hL
          have hvv : v = nuF tx q (k - q) := by split at hv <;> omega
          have hU : pnU tx n false lo hi q = .inl (k, v) := by
            unfold pnU; rw [if_neg (by omega), ← hL]
            rw [sgF_f]
            rw [← hvv, if_pos (by omega)]
          exact ⟨_, _, _, rfl, rfl, rfl, ⟨fun a ha => by rw [up2_row _ _ _ _ ha]; exact hA a ha, by rw [up2_ne2 _ _ _ _ (by decide)]; exact hB⟩, by rw [hU]; exact ⟨rfl, by rw [up2_ne2 _ _ _ _ (by decide)]; exact hp, up2_same _ _ _ _, hkn, (up2_ne2 _ _ _ _ (by decide)).trans hC, (up2_ne2 _ _ _ _ (by decide)).trans hq⟩⟩
        · show Ev X k_X4_readNumber (168, [some (vr 111), some (vi lo), some (vi hi), some (vi 0), some (vi v)], []) (MS (up2 I 111 5 v) J cc ss) _
          refine ev_n (fr' := (175, [some (vr 111), some (vi lo), some (vi hi), some (vi 0), some (vi v)], [vi (I 111 4), vi (-3), vr 111])) (S' := MS (up2 I 111 5 v) J cc ss) 4 rfl ?_
          refine ev_eqi (hq) ?_
          show Ev X k_X4_readNumber (175, [some (vr 111), some (vi lo), some (vi hi), some (vi 0), some (vi v)], [vi (q : Int), vi (-3), vr 111]) (MS (up2 I 111 5 v) J cc ss) _
          refine ev_cv rfl rfl rfl ⟨Nat.le_of_ble_eq_true rfl, Nat.le_of_ble_eq_true rfl⟩ (sp_fail X _ _ _ _ (-3) (q : Int)) ?_
          show Ev X k_X4_readNumber (178, [some (vr 111), some (vi lo), some (vi hi), some (vi 0), some (vi v)], [vi 0]) (MS (up2 (up2 (up2 I 111 5 v) 111 6 (-3)) 111 7 (q : Int)) J cc ss) _
          refine ev_n (fr' := (186, [some (vr 111), some (vi lo), some (vi hi), some (vi 0), some (vi v)], [vi 0])) (S' := MS (up2 (up2 (up2 I 111 5 v) 111 6 (-3)) 111 7 (q : Int)) J cc ss) 2 rfl ?_
          refine ev_r rfl rfl rfl ?_
          have hs : diF tx n k = k := by first | exact scF_end (by omega) | exact scF_not (decide_eq_false (by omega))
          rw [hs] at hL
          have hU : pnU tx n false lo hi q = .inr (-3, q) := by
            unfold pnU; rw [if_neg (by omega), ← hL]
            rw [sgF_f]
            rw [if_neg (by split at hv <;> omega)]
          exact ⟨_, _, _, rfl, rfl, rfl, ⟨fun a ha => by rw [up2_row _ _ _ _ ha, up2_row _ _ _ _ ha, up2_row _ _ _ _ ha]; exact hA a ha, by rw [up2_ne2 _ _ _ _ (by decide), up2_ne2 _ _ _ _ (by decide), up2_ne2 _ _ _ _ (by decide)]; exact hB⟩, by rw [hU]; exact ⟨rfl, by rw [up2_ne2 _ _ _ _ (by decide), up2_same], up2_same _ _ _ _⟩⟩
      · show Ev X k_X4_readNumber (129, [some (vr 111), some (vi lo), some (vi hi), some (vi 0), some (vi v)], []) (MS I J cc ss) _
        refine ev_n (fr' := (136, [some (vr 111), some (vi lo), some (vi hi), some (vi 0), some (vi v)], [vi (I 111 4), vi (-2), vr 111])) (S' := MS I J cc ss) 4 rfl ?_
        refine ev_eqi (hq) ?_
        show Ev X k_X4_readNumber (136, [some (vr 111), some (vi lo), some (vi hi), some (vi 0), some (vi v)], [vi (q : Int), vi (-2), vr 111]) (MS I J cc ss) _
        refine ev_cv rfl rfl rfl ⟨Nat.le_of_ble_eq_true rfl, Nat.le_of_ble_eq_true rfl⟩ (sp_fail X _ _ _ _ (-2) (q : Int)) ?_
        show Ev X k_X4_readNumber (139, [some (vr 111), some (vi lo), some (vi hi), some (vi 0), some (vi v)], [vi 0]) (MS (up2 (up2 I 111 6 (-2)) 111 7 (q : Int)) J cc ss) _
        refine ev_r rfl rfl rfl ?_
        have hs : diF tx n k = k := by first | exact scF_end (by omega) | exact scF_not (decide_eq_false (by omega))
        rw [hs] at hL
        have hU : pnU tx n false lo hi q = .inr (-2, q) := by unfold pnU; rw [if_pos (by omega)]
        exact ⟨_, _, _, rfl, rfl, rfl, ⟨fun a ha => by rw [up2_row _ _ _ _ ha, up2_row _ _ _ _ ha]; exact hA a ha, by rw [up2_ne2 _ _ _ _ (by decide), up2_ne2 _ _ _ _ (by decide)]; exact hB⟩, by rw [hU]; exact ⟨rfl, by rw [up2_ne2 _ _ _ _ (by decide), up2_same], up2_same _ _ _ _⟩⟩
    · show Ev X k_X4_readNumber (77, [some (vr 111), some (vi lo), some (vi hi), some (vi 0), some (vi v)], []) (MS I J cc ss) _
      have ht := hT.rng (k := k) (by omega)
      refine ev_n (fr' := (84, [some (vr 111), some (vi lo), some (vi hi), some (vi 0), some (vi v)], [vi 10, vi v, vi 1000])) (S' := MS I J cc ss) 3 rfl ?_
      refine ev_mul (z := 10 * v) rfl (by omega) (by omega) (by omega) ?_
      show Ev X k_X4_readNumber (85, [some (vr 111), some (vi lo), some (vi hi), some (vi 0), some (vi v)], [vi (10 * v), vi 1000]) (MS I J cc ss) _
      refine ev_n (fr' := (93, [some (vr 111), some (vi lo), some (vi hi), some (vi 0), some (vi v)], [vi (I 111 3), vr 112, vi (10 * v), vi 1000])) (S' := MS I J cc ss) 4 rfl ?_
      refine ev_eqi (hp) ?_
      show Ev X k_X4_readNumber (93, [some (vr 111), some (vi lo), some (vi hi), some (vi 0), some (vi v)], [vi (k : Int), vr 112, vi (10 * v), vi 1000]) (MS I J cc ss) _
      refine ev_cv rfl rfl rfl ⟨Nat.le_of_ble_eq_true rfl, Nat.le_of_ble_eq_true rfl⟩ (sp_byteAt X _ _ _ _ hT k (by omega)) ?_
      show Ev X k_X4_readNumber (96, [some (vr 111), some (vi lo), some (vi hi), some (vi 0), some (vi v)], [vi (tx k), vi (10 * v), vi 1000]) (MS I J cc ss) _
      refine ev_add (z := 10 * v + (tx k)) rfl (by omega) (by omega) (by omega) ?_
      show Ev X k_X4_readNumber (97, [some (vr 111), some (vi lo), some (vi hi), some (vi 0), some (vi v)], [vi (10 * v + (tx k)), vi 1000]) (MS I J cc ss) _
      refine ev_n (fr' := (99, [some (vr 111), some (vi lo), some (vi hi), some (vi 0), some (vi v)], [vi 48, vi (10 * v + (tx k)), vi 1000])) (S' := MS I J cc ss) 1 rfl ?_
      refine ev_sub (z := 10 * v + (tx k) - 48) rfl (by omega) (by omega) (by omega) ?_
      show Ev X k_X4_readNumber (100, [some (vr 111), some (vi lo), some (vi hi), some (vi 0), some (vi v)], [vi (10 * v + (tx k) - 48), vi 1000]) (MS I J cc ss) _
      refine ev_cv rfl rfl rfl ⟨Nat.le_of_ble_eq_true rfl, Nat.le_of_ble_eq_true rfl⟩ (sp_min X _ 1000 (10 * v + (tx k) - 48) ) ?_
      show Ev X k_X4_readNumber (103, [some (vr 111), some (vi lo), some (vi hi), some (vi 0), some (vi v)], [vi (if 10 * v + (tx k) - 48 < 1000 then 10 * v + (tx k) - 48 else 1000)]) (MS I J cc ss) _
      refine ev_n (fr' := (110, [some (vr 111), some (vi lo), some (vi hi), some (vi 0), some (vi (if 10 * v + (tx k) - 48 < 1000 then 10 * v + (tx k) - 48 else 1000))], [vi (I 111 3), vr 111])) (S' := MS I J cc ss) 4 rfl ?_
      refine ev_eqi (hp) ?_
      show Ev X k_X4_readNumber (110, [some (vr 111), some (vi lo), some (vi hi), some (vi 0), some (vi (if 10 * v + (tx k) - 48 < 1000 then 10 * v + (tx k) - 48 else 1000))], [vi (k : Int), vr 111]) (MS I J cc ss) _
      refine ev_n (fr' := (111, [some (vr 111), some (vi lo), some (vi hi), some (vi 0), some (vi (if 10 * v + (tx k) - 48 < 1000 then 10 * v + (tx k) - 48 else 1000))], [vi 1, vi (k : Int), vr 111])) (S' := MS I J cc ss) 1 rfl ?_
      refine ev_add (z := (k : Int) + 1) rfl (by omega) (by omega) (by omega) ?_
      show Ev X k_X4_readNumber (112, [some (vr 111), some (vi lo), some (vi hi), some (vi 0), some (vi (if 10 * v + (tx k) - 48 < 1000 then 10 * v + (tx k) - 48 else 1000))], [vi ((k : Int) + 1), vr 111]) (MS I J cc ss) _
      refine ev_n (fr' := (115, [some (vr 111), some (vi lo), some (vi hi), some (vi 0), some (vi (if 10 * v + (tx k) - 48 < 1000 then 10 * v + (tx k) - 48 else 1000))], [])) (S' := MS (up2 I 111 3 ((k : Int) + 1)) J cc ss) 1 rfl ?_
      refine ev_n (fr' := (49, [some (vr 111), some (vi lo), some (vi hi), some (vi 0), some (vi (if 10 * v + (tx k) - 48 < 1000 then 10 * v + (tx k) - 48 else 1000))], [])) (S' := MS (up2 I 111 3 ((k : Int) + 1)) J cc ss) 1 rfl ?_
      have hs : diF tx n k = diF tx n (k + 1) := scF_step (by omega) (decide_eq_true (by omega))
      exact lp_num0 X _ J cc ss I0 lo hi hlh (hT.cell (up2_row _ _ _ _ (by decide)) (up2_row _ _ _ _ (by decide))) ((up2_ne2 _ _ _ _ (by decide)).trans hn) (k + 1) (up2_same _ _ _ _) (by omega) ((up2_ne2 _ _ _ _ (by decide)).trans hq) (by omega) (hL.symm.trans hs).symm (nlt_succ2 hall (decide_eq_true (by omega))) _ (by
        rw [show k + 1 - q = (k - q) + 1 by omega]
        show _ = if 10 * nuF tx q (k - q) + (tx (q + (k - q)) - 48) < 1000 then 10 * nuF tx q (k - q) + (tx (q + (k - q)) - 48) else 1000
        rw [show q + (k - q) = k by omega]
        split <;> split <;> omega) (fun a ha => (up2_row _ _ _ _ ha).trans (hA a ha)) ((up2_ne2 _ _ _ _ (by decide)).trans hB) ((up2_ne2 _ _ _ _ (by decide)).trans hC)
termination_by n - k
decreasing_by all_goals omega
theorem lp_num1 (X : AX) (I J : Nat → Nat → Int) (cc ss : Nat) (I0 : F2) (lo hi : Int) (hlh : -1000 < lo ∧ hi < 1000) {tx : F1} {n : Nat} (hT : TB I tx n) (hn : I 111 2 = (n : Int)) (k : Nat) (hp : I 111 3 = (k : Int)) (hkn : k ≤ n) {q : Nat} (hq : I 111 4 = (q : Int)) (hqk : q ≤ k) (hL : diF tx n k = diF tx n q) (hall : ∀ j, q ≤ j → j < k → isDi (tx j) = true) (v : Int) (hv : v = if nuF tx q (k - q) < 1000 then nuF tx q (k - q) else 1000) (hA : ∀ a, a ≠ 111 → I a = I0 a) (hB : I 111 2 = I0 111 2) (hC : I 111 7 = I0 111 7) : Ev X k_X4_readNumber (49, [some (vr 111), some (vi lo), some (vi hi), some (vi 1), some (vi v)], []) (MS I J cc ss) (PZ cc ss (fun z I' J' => J' = J ∧ CNu I0 I' (pnU tx n true lo hi q) n q z)) := by
  have h900 := hT.le
  have hr := nuF_rng (tx := tx) (a := q) (k - q) (fun j h1 h2 => hall j h1 (by omega))
  have hv0 : 0 ≤ v ∧ v ≤ 1000 := by split at hv <;> omega
  refine ev_n (fr' := (53, [some (vr 111), some (vi lo), some (vi hi), some (vi 1), some (vi v)], [vi (I 111 3)])) (S' := MS I J cc ss) 2 rfl ?_
  refine ev_eqi (hp) ?_
  show Ev X k_X4_readNumber (53, [some (vr 111), some (vi lo), some (vi hi), some (vi 1), some (vi v)], [vi (k : Int)]) (MS I J cc ss) _
  refine ev_n (fr' := (57, [some (vr 111), some (vi lo), some (vi hi), some (vi 1), some (vi v)], [vi (I 111 2), vi (k : Int)])) (S' := MS I J cc ss) 2 rfl ?_
  refine ev_eqi (hn) ?_
  show Ev X k_X4_readNumber (57, [some (vr 111), some (vi lo), some (vi hi), some (vi 1), some (vi v)], [vi (n : Int), vi (k : Int)]) (MS I J cc ss) _
  refine ev_ic (c := .ge) (off := 61) rfl (by decide) (fun (g1 : (n : Int) ≤ (k : Int)) => ?_) (fun (g1 : ¬ ((n : Int) ≤ (k : Int))) => ?_)
  · show Ev X k_X4_readNumber (118, [some (vr 111), some (vi lo), some (vi hi), some (vi 1), some (vi v)], []) (MS I J cc ss) _
    refine ev_n (fr' := (122, [some (vr 111), some (vi lo), some (vi hi), some (vi 1), some (vi v)], [vi (I 111 3)])) (S' := MS I J cc ss) 2 rfl ?_
    refine ev_eqi (hp) ?_
    show Ev X k_X4_readNumber (122, [some (vr 111), some (vi lo), some (vi hi), some (vi 1), some (vi v)], [vi (k : Int)]) (MS I J cc ss) _
    refine ev_n (fr' := (126, [some (vr 111), some (vi lo), some (vi hi), some (vi 1), some (vi v)], [vi (I 111 4), vi (k : Int)])) (S' := MS I J cc ss) 2 rfl ?_
    refine ev_eqi (hq) ?_
    show Ev X k_X4_readNumber (126, [some (vr 111), some (vi lo), some (vi hi), some (vi 1), some (vi v)], [vi (q : Int), vi (k : Int)]) (MS I J cc ss) _
    refine ev_ic (c := .ne) (off := 14) rfl (by decide) (fun (g2 : (k : Int) ≠ (q : Int)) => ?_) (fun (g2 : ¬ ((k : Int) ≠ (q : Int))) => ?_)
    · show Ev X k_X4_readNumber (140, [some (vr 111), some (vi lo), some (vi hi), some (vi 1), some (vi v)], []) (MS I J cc ss) _
      refine ev_n (fr' := (147, [some (vr 111), some (vi lo), some (vi hi), some (vi 1), some (vi v)], [vi v, vr 111])) (S' := MS I J cc ss) 4 rfl ?_
      refine ev_neg (z := -v) rfl (by omega) (by omega) (by omega) ?_
      show Ev X k_X4_readNumber (148, [some (vr 111), some (vi lo), some (vi hi), some (vi 1), some (vi v)], [vi (-v), vr 111]) (MS I J cc ss) _
      refine ev_n (fr' := (153, [some (vr 111), some (vi lo), some (vi hi), some (vi 1), some (vi v)], [vi (-v), vr 111])) (S' := MS I J cc ss) 1 rfl ?_
      refine ev_n (fr' := (156, [some (vr 111), some (vi lo), some (vi hi), some (vi 1), some (vi v)], [])) (S' := MS (up2 I 111 5 (-v)) J cc ss) 1 rfl ?_
      refine ev_n (fr' := (162, [some (vr 111), some (vi lo), some (vi hi), some (vi 1), some (vi v)], [vi hi, vi lo, vi (-v)])) (S' := MS (up2 I 111 5 (-v)) J cc ss) 4 rfl ?_
      refine ev_cv rfl rfl rfl ⟨Nat.le_of_ble_eq_true rfl, Nat.le_of_ble_eq_true rfl⟩ (sp_within X _ (-v) lo hi ) ?_
      show Ev X k_X4_readNumber (165, [some (vr 111), some (vi lo), some (vi hi), some (vi 1), some (vi v)], [vi (if lo ≤ -v ∧ -v ≤ hi then 1 else 0)]) (MS (up2 I 111 5 (-v)) J cc ss) _
      refine ev_bne _ rfl (by decide) (fun (g3 : lo ≤ -v ∧ -v ≤ hi) => ?_) (fun (g3 : ¬ (lo ≤ -v ∧ -v ≤ hi)) => ?_)
      · show Ev X k_X4_readNumber (181, [some (vr 111), some (vi lo), some (vi hi), some (vi 1), some (vi v)], []) (MS (up2 I 111 5 (-v)) J cc ss) _
        refine ev_n (fr' := (186, [some (vr 111), some (vi lo), some (vi hi), some (vi 1), some (vi v)], [vi 1])) (S' := MS (up2 I 111 5 (-v)) J cc ss) 2 rfl ?_
        refine ev_r rfl rfl rfl ?_
        have hs : diF tx n k = k := by first | exact scF_end (by omega) | exact scF_not (decide_eq_false (by omega))
        rw [hs] at hL
        have hvv : v = nuF tx q (k - q) := by split at hv <;> omega
        have hU : pnU tx n true lo hi q = .inl (k, -v) := by
          unfold pnU; rw [if_neg (by omega), ← hL]
          rw [sgF_t]
          rw [← hvv, if_pos (by omega)]
        exact ⟨_, _, _, rfl, rfl, rfl, ⟨fun a ha => by rw [up2_row _ _ _ _ ha]; exact hA a ha, by rw [up2_ne2 _ _ _ _ (by decide)]; exact hB⟩, by rw [hU]; exact ⟨rfl, by rw [up2_ne2 _ _ _ _ (by decide)]; exact hp, up2_same _ _ _ _, hkn, (up2_ne2 _ _ _ _ (by decide)).trans hC, (up2_ne2 _ _ _ _ (by decide)).trans hq⟩⟩
      · show Ev X k_X4_readNumber (168, [some (vr 111), some (vi lo), some (vi hi), some (vi 1), some (vi v)], []) (MS (up2 I 111 5 (-v)) J cc ss) _
        refine ev_n (fr' := (175, [some (vr 111), some (vi lo), some (vi hi), some (vi 1), some (vi v)], [vi (I 111 4), vi (-3), vr 111])) (S' := MS (up2 I 111 5 (-v)) J cc ss) 4 rfl ?_
        refine ev_eqi (hq) ?_
        show Ev X k_X4_readNumber (175, [some (vr 111), some (vi lo), some (vi hi), some (vi 1), some (vi v)], [vi (q : Int), vi (-3), vr 111]) (MS (up2 I 111 5 (-v)) J cc ss) _
        refine ev_cv rfl rfl rfl ⟨Nat.le_of_ble_eq_true rfl, Nat.le_of_ble_eq_true rfl⟩ (sp_fail X _ _ _ _ (-3) (q : Int)) ?_
        show Ev X k_X4_readNumber (178, [some (vr 111), some (vi lo), some (vi hi), some (vi 1), some (vi v)], [vi 0]) (MS (up2 (up2 (up2 I 111 5 (-v)) 111 6 (-3)) 111 7 (q : Int)) J cc ss) _
        refine ev_n (fr' := (186, [some (vr 111), some (vi lo), some (vi hi), some (vi 1), some (vi v)], [vi 0])) (S' := MS (up2 (up2 (up2 I 111 5 (-v)) 111 6 (-3)) 111 7 (q : Int)) J cc ss) 2 rfl ?_
        refine ev_r rfl rfl rfl ?_
        have hs : diF tx n k = k := by first | exact scF_end (by omega) | exact scF_not (decide_eq_false (by omega))
        rw [hs] at hL
        have hU : pnU tx n true lo hi q = .inr (-3, q) := by
          unfold pnU; rw [if_neg (by omega), ← hL]
          rw [sgF_t]
          rw [if_neg (by split at hv <;> omega)]
        exact ⟨_, _, _, rfl, rfl, rfl, ⟨fun a ha => by rw [up2_row _ _ _ _ ha, up2_row _ _ _ _ ha, up2_row _ _ _ _ ha]; exact hA a ha, by rw [up2_ne2 _ _ _ _ (by decide), up2_ne2 _ _ _ _ (by decide), up2_ne2 _ _ _ _ (by decide)]; exact hB⟩, by rw [hU]; exact ⟨rfl, by rw [up2_ne2 _ _ _ _ (by decide), up2_same], up2_same _ _ _ _⟩⟩
    · show Ev X k_X4_readNumber (129, [some (vr 111), some (vi lo), some (vi hi), some (vi 1), some (vi v)], []) (MS I J cc ss) _
      refine ev_n (fr' := (136, [some (vr 111), some (vi lo), some (vi hi), some (vi 1), some (vi v)], [vi (I 111 4), vi (-2), vr 111])) (S' := MS I J cc ss) 4 rfl ?_
      refine ev_eqi (hq) ?_
      show Ev X k_X4_readNumber (136, [some (vr 111), some (vi lo), some (vi hi), some (vi 1), some (vi v)], [vi (q : Int), vi (-2), vr 111]) (MS I J cc ss) _
      refine ev_cv rfl rfl rfl ⟨Nat.le_of_ble_eq_true rfl, Nat.le_of_ble_eq_true rfl⟩ (sp_fail X _ _ _ _ (-2) (q : Int)) ?_
      show Ev X k_X4_readNumber (139, [some (vr 111), some (vi lo), some (vi hi), some (vi 1), some (vi v)], [vi 0]) (MS (up2 (up2 I 111 6 (-2)) 111 7 (q : Int)) J cc ss) _
      refine ev_r rfl rfl rfl ?_
      have hs : diF tx n k = k := by first | exact scF_end (by omega) | exact scF_not (decide_eq_false (by omega))
      rw [hs] at hL
      have hU : pnU tx n true lo hi q = .inr (-2, q) := by unfold pnU; rw [if_pos (by omega)]
      exact ⟨_, _, _, rfl, rfl, rfl, ⟨fun a ha => by rw [up2_row _ _ _ _ ha, up2_row _ _ _ _ ha]; exact hA a ha, by rw [up2_ne2 _ _ _ _ (by decide), up2_ne2 _ _ _ _ (by decide)]; exact hB⟩, by rw [hU]; exact ⟨rfl, by rw [up2_ne2 _ _ _ _ (by decide), up2_same], up2_same _ _ _ _⟩⟩
  · show Ev X k_X4_readNumber (60, [some (vr 111), some (vi lo), some (vi hi), some (vi 1), some (vi v)], []) (MS I J cc ss) _
    refine ev_n (fr' := (68, [some (vr 111), some (vi lo), some (vi hi), some (vi 1), some (vi v)], [vi (I 111 3), vr 112])) (S' := MS I J cc ss) 4 rfl ?_
    refine ev_eqi (hp) ?_
    show Ev X k_X4_readNumber (68, [some (vr 111), some (vi lo), some (vi hi), some (vi 1), some (vi v)], [vi (k : Int), vr 112]) (MS I J cc ss) _
    refine ev_cv rfl rfl rfl ⟨Nat.le_of_ble_eq_true rfl, Nat.le_of_ble_eq_true rfl⟩ (sp_byteAt X _ _ _ _ hT k (by omega)) ?_
    show Ev X k_X4_readNumber (71, [some (vr 111), some (vi lo), some (vi hi), some (vi 1), some (vi v)], [vi (tx k)]) (MS I J cc ss) _
    refine ev_cv rfl rfl rfl ⟨Nat.le_of_ble_eq_true rfl, Nat.le_of_ble_eq_true rfl⟩ (sp_c_isDigit X _ (tx k) ) ?_
    show Ev X k_X4_readNumber (74, [some (vr 111), some (vi lo), some (vi hi), some (vi 1), some (vi v)], [vi (if 48 ≤ (tx k) ∧ (tx k) ≤ 57 then 1 else 0)]) (MS I J cc ss) _
    refine ev_beq _ rfl (by decide) (fun (g4 : ¬ (48 ≤ (tx k) ∧ (tx k) ≤ 57)) => ?_) (fun (g4 : 48 ≤ (tx k) ∧ (tx k) ≤ 57) => ?_)
    · show Ev X k_X4_readNumber (118, [some (vr 111), some (vi lo), some (vi hi), some (vi 1), some (vi v)], []) (MS I J cc ss) _
      refine ev_n (fr' := (122, [some (vr 111), some (vi lo), some (vi hi), some (vi 1), some (vi v)], [vi (I 111 3)])) (S' := MS I J cc ss) 2 rfl ?_
      refine ev_eqi (hp) ?_
      show Ev X k_X4_readNumber (122, [some (vr 111), some (vi lo), some (vi hi), some (vi 1), some (vi v)], [vi (k : Int)]) (MS I J cc ss) _
      refine ev_n (fr' := (126, [some (vr 111), some (vi lo), some (vi hi), some (vi 1), some (vi v)], [vi (I 111 4), vi (k : Int)])) (S' := MS I J cc ss) 2 rfl ?_
      refine ev_eqi (hq) ?_
      show Ev X k_X4_readNumber (126, [some (vr 111), some (vi lo), some (vi hi), some (vi 1), some (vi v)], [vi (q : Int), vi (k : Int)]) (MS I J cc ss) _
      refine ev_ic (c := .ne) (off := 14) rfl (by decide) (fun (g5 : (k : Int) ≠ (q : Int)) => ?_) (fun (g5 : ¬ ((k : Int) ≠ (q : Int))) => ?_)
      · show Ev X k_X4_readNumber (140, [some (vr 111), some (vi lo), some (vi hi), some (vi 1), some (vi v)], []) (MS I J cc ss) _
        refine ev_n (fr' := (147, [some (vr 111), some (vi lo), some (vi hi), some (vi 1), some (vi v)], [vi v, vr 111])) (S' := MS I J cc ss) 4 rfl ?_
        refine ev_neg (z := -v) rfl (by omega) (by omega) (by omega) ?_
        show Ev X k_X4_readNumber (148, [some (vr 111), some (vi lo), some (vi hi), some (vi 1), some (vi v)], [vi (-v), vr 111]) (MS I J cc ss) _
        refine ev_n (fr' := (153, [some (vr 111), some (vi lo), some (vi hi), some (vi 1), some (vi v)], [vi (-v), vr 111])) (S' := MS I J cc ss) 1 rfl ?_
        refine ev_n (fr' := (156, [some (vr 111), some (vi lo), some (vi hi), some (vi 1), some (vi v)], [])) (S' := MS (up2 I 111 5 (-v)) J cc ss) 1 rfl ?_
        refine ev_n (fr' := (162, [some (vr 111), some (vi lo), some (vi hi), some (vi 1), some (vi v)], [vi hi, vi lo, vi (-v)])) (S' := MS (up2 I 111 5 (-v)) J cc ss) 4 rfl ?_
        refine ev_cv rfl rfl rfl ⟨Nat.le_of_ble_eq_true rfl, Nat.le_of_ble_eq_true rfl⟩ (sp_within X _ (-v) lo hi ) ?_
        show Ev X k_X4_readNumber (165, [some (vr 111), some (vi lo), some (vi hi), some (vi 1), some (vi v)], [vi (if lo ≤ -v ∧ -v ≤ hi then 1 else 0)]) (MS (up2 I 111 5 (-v)) J cc ss) _
        refine ev_bne _ rfl (by decide) (fun (g6 : lo ≤ -v ∧ -v ≤ hi) => ?_) (fun (g6 : ¬ (lo ≤ -v ∧ -v ≤ hi)) => ?_)
        · show Ev X k_X4_readNumber (181, [some (vr 111), some (vi lo), some (vi hi), some (vi 1), some (vi v)], []) (MS (up2 I 111 5 (-v)) J cc ss) _
          refine ev_n (fr' := (186, [some (vr 111), some (vi lo), some (vi hi), some (vi 1), some (vi v)], [vi 1])) (S' := MS (up2 I 111 5 (-v)) J cc ss) 2 rfl ?_
          refine ev_r rfl rfl rfl ?_
          have hs : diF tx n k = k := by first | exact scF_end (by omega) | exact scF_not (decide_eq_false (by omega))
          rw [hs] at hL
          have hvv : v = nuF tx q (k - q) := by split at hv <;> omega
          have hU : pnU tx n true lo hi q = .inl (k, -v) := by
            unfold pnU; rw [if_neg (by omega), ← hL]
            rw [sgF_t]
            rw [← hvv, if_pos (by omega)]
          exact ⟨_, _, _, rfl, rfl, rfl, ⟨fun a ha => by rw [up2_row _ _ _ _ ha]; exact hA a ha, by rw [up2_ne2 _ _ _ _ (by decide)]; exact hB⟩, by rw [hU]; exact ⟨rfl, by rw [up2_ne2 _ _ _ _ (by decide)]; exact hp, up2_same _ _ _ _, hkn, (up2_ne2 _ _ _ _ (by decide)).trans hC, (up2_ne2 _ _ _ _ (by decide)).trans hq⟩⟩
        · show Ev X k_X4_readNumber (168, [some (vr 111), some (vi lo), some (vi hi), some (vi 1), some (vi v)], []) (MS (up2 I 111 5 (-v)) J cc ss) _
          refine ev_n (fr' := (175, [some (vr 111), some (vi lo), some (vi hi), some (vi 1), some (vi v)], [vi (I 111 4), vi (-3), vr 111])) (S' := MS (up2 I 111 5 (-v)) J cc ss) 4 rfl ?_
          refine ev_eqi (hq) ?_
          show Ev X k_X4_readNumber (175, [some (vr 111), some (vi lo), some (vi hi), some (vi 1), some (vi v)], [vi (q : Int), vi (-3), vr 111]) (MS (up2 I 111 5 (-v)) J cc ss) _
          refine ev_cv rfl rfl rfl ⟨Nat.le_of_ble_eq_true rfl, Nat.le_of_ble_eq_true rfl⟩ (sp_fail X _ _ _ _ (-3) (q : Int)) ?_
          show Ev X k_X4_readNumber (178, [some (vr 111), some (vi lo), some (vi hi), some (vi 1), some (vi v)], [vi 0]) (MS (up2 (up2 (up2 I 111 5 (-v)) 111 6 (-3)) 111 7 (q : Int)) J cc ss) _
          refine ev_n (fr' := (186, [some (vr 111), some (vi lo), some (vi hi), some (vi 1), some (vi v)], [vi 0])) (S' := MS (up2 (up2 (up2 I 111 5 (-v)) 111 6 (-3)) 111 7 (q : Int)) J cc ss) 2 rfl ?_
          refine ev_r rfl rfl rfl ?_
          have hs : diF tx n k = k := by first | exact scF_end (by omega) | exact scF_not (decide_eq_false (by omega))
          rw [hs] at hL
          have hU : pnU tx n true lo hi q = .inr (-3, q) := by
            unfold pnU; rw [if_neg (by omega), ← hL]
            rw [sgF_t]
            rw [if_neg (by split at hv <;> omega)]
          exact ⟨_, _, _, rfl, rfl, rfl, ⟨fun a ha => by rw [up2_row _ _ _ _ ha, up2_row _ _ _ _ ha, up2_row _ _ _ _ ha]; exact hA a ha, by rw [up2_ne2 _ _ _ _ (by decide), up2_ne2 _ _ _ _ (by decide), up2_ne2 _ _ _ _ (by decide)]; exact hB⟩, by rw [hU]; exact ⟨rfl, by rw [up2_ne2 _ _ _ _ (by decide), up2_same], up2_same _ _ _ _⟩⟩
      · show Ev X k_X4_readNumber (129, [some (vr 111), some (vi lo), some (vi hi), some (vi 1), some (vi v)], []) (MS I J cc ss) _
        refine ev_n (fr' := (136, [some (vr 111), some (vi lo), some (vi hi), some (vi 1), some (vi v)], [vi (I 111 4), vi (-2), vr 111])) (S' := MS I J cc ss) 4 rfl ?_
        refine ev_eqi (hq) ?_
        show Ev X k_X4_readNumber (136, [some (vr 111), some (vi lo), some (vi hi), some (vi 1), some (vi v)], [vi (q : Int), vi (-2), vr 111]) (MS I J cc ss) _
        refine ev_cv rfl rfl rfl ⟨Nat.le_of_ble_eq_true rfl, Nat.le_of_ble_eq_true rfl⟩ (sp_fail X _ _ _ _ (-2) (q : Int)) ?_
        show Ev X k_X4_readNumber (139, [some (vr 111), some (vi lo), some (vi hi), some (vi 1), some (vi v)], [vi 0]) (MS (up2 (up2 I 111 6 (-2)) 111 7 (q : Int)) J cc ss) _
        refine ev_r rfl rfl rfl ?_
        have hs : diF tx n k = k := by first | exact scF_end (by omega) | exact scF_not (decide_eq_false (by omega))
        rw [hs] at hL
        have hU : pnU tx n true lo hi q = .inr (-2, q) := by unfold pnU; rw [if_pos (by omega)]
        exact ⟨_, _, _, rfl, rfl, rfl, ⟨fun a ha => by rw [up2_row _ _ _ _ ha, up2_row _ _ _ _ ha]; exact hA a ha, by rw [up2_ne2 _ _ _ _ (by decide), up2_ne2 _ _ _ _ (by decide)]; exact hB⟩, by rw [hU]; exact ⟨rfl, by rw [up2_ne2 _ _ _ _ (by decide), up2_same], up2_same _ _ _ _⟩⟩
    · show Ev X k_X4_readNumber (77, [some (vr 111), some (vi lo), some (vi hi), some (vi 1), some (vi v)], []) (MS I J cc ss) _
      have ht := hT.rng (k := k) (by omega)
      refine ev_n (fr' := (84, [some (vr 111), some (vi lo), some (vi hi), some (vi 1), some (vi v)], [vi 10, vi v, vi 1000])) (S' := MS I J cc ss) 3 rfl ?_
      refine ev_mul (z := 10 * v) rfl (by omega) (by omega) (by omega) ?_
      show Ev X k_X4_readNumber (85, [some (vr 111), some (vi lo), some (vi hi), some (vi 1), some (vi v)], [vi (10 * v), vi 1000]) (MS I J cc ss) _
      refine ev_n (fr' := (93, [some (vr 111), some (vi lo), some (vi hi), some (vi 1), some (vi v)], [vi (I 111 3), vr 112, vi (10 * v), vi 1000])) (S' := MS I J cc ss) 4 rfl ?_
      refine ev_eqi (hp) ?_
      show Ev X k_X4_readNumber (93, [some (vr 111), some (vi lo), some (vi hi), some (vi 1), some (vi v)], [vi (k : Int), vr 112, vi (10 * v), vi 1000]) (MS I J cc ss) _
      refine ev_cv rfl rfl rfl ⟨Nat.le_of_ble_eq_true rfl, Nat.le_of_ble_eq_true rfl⟩ (sp_byteAt X _ _ _ _ hT k (by omega)) ?_
      show Ev X k_X4_readNumber (96, [some (vr 111), some (vi lo), some (vi hi), some (vi 1), some (vi v)], [vi (tx k), vi (10 * v), vi 1000]) (MS I J cc ss) _
      refine ev_add (z := 10 * v + (tx k)) rfl (by omega) (by omega) (by omega) ?_
      show Ev X k_X4_readNumber (97, [some (vr 111), some (vi lo), some (vi hi), some (vi 1), some (vi v)], [vi (10 * v + (tx k)), vi 1000]) (MS I J cc ss) _
      refine ev_n (fr' := (99, [some (vr 111), some (vi lo), some (vi hi), some (vi 1), some (vi v)], [vi 48, vi (10 * v + (tx k)), vi 1000])) (S' := MS I J cc ss) 1 rfl ?_
      refine ev_sub (z := 10 * v + (tx k) - 48) rfl (by omega) (by omega) (by omega) ?_
      show Ev X k_X4_readNumber (100, [some (vr 111), some (vi lo), some (vi hi), some (vi 1), some (vi v)], [vi (10 * v + (tx k) - 48), vi 1000]) (MS I J cc ss) _
      refine ev_cv rfl rfl rfl ⟨Nat.le_of_ble_eq_true rfl, Nat.le_of_ble_eq_true rfl⟩ (sp_min X _ 1000 (10 * v + (tx k) - 48) ) ?_
      show Ev X k_X4_readNumber (103, [some (vr 111), some (vi lo), some (vi hi), some (vi 1), some (vi v)], [vi (if 10 * v + (tx k) - 48 < 1000 then 10 * v + (tx k) - 48 else 1000)]) (MS I J cc ss) _
      refine ev_n (fr' := (110, [some (vr 111), some (vi lo), some (vi hi), some (vi 1), some (vi (if 10 * v + (tx k) - 48 < 1000 then 10 * v + (tx k) - 48 else 1000))], [vi (I 111 3), vr 111])) (S' := MS I J cc ss) 4 rfl ?_
      refine ev_eqi (hp) ?_
      show Ev X k_X4_readNumber (110, [some (vr 111), some (vi lo), some (vi hi), some (vi 1), some (vi (if 10 * v + (tx k) - 48 < 1000 then 10 * v + (tx k) - 48 else 1000))], [vi (k : Int), vr 111]) (MS I J cc ss) _
      refine ev_n (fr' := (111, [some (vr 111), some (vi lo), some (vi hi), some (vi 1), some (vi (if 10 * v + (tx k) - 48 < 1000 then 10 * v + (tx k) - 48 else 1000))], [vi 1, vi (k : Int), vr 111])) (S' := MS I J cc ss) 1 rfl ?_
      refine ev_add (z := (k : Int) + 1) rfl (by omega) (by omega) (by omega) ?_
      show Ev X k_X4_readNumber (112, [some (vr 111), some (vi lo), some (vi hi), some (vi 1), some (vi (if 10 * v + (tx k) - 48 < 1000 then 10 * v + (tx k) - 48 else 1000))], [vi ((k : Int) + 1), vr 111]) (MS I J cc ss) _
      refine ev_n (fr' := (115, [some (vr 111), some (vi lo), some (vi hi), some (vi 1), some (vi (if 10 * v + (tx k) - 48 < 1000 then 10 * v + (tx k) - 48 else 1000))], [])) (S' := MS (up2 I 111 3 ((k : Int) + 1)) J cc ss) 1 rfl ?_
      refine ev_n (fr' := (49, [some (vr 111), some (vi lo), some (vi hi), some (vi 1), some (vi (if 10 * v + (tx k) - 48 < 1000 then 10 * v + (tx k) - 48 else 1000))], [])) (S' := MS (up2 I 111 3 ((k : Int) + 1)) J cc ss) 1 rfl ?_
      have hs : diF tx n k = diF tx n (k + 1) := scF_step (by omega) (decide_eq_true (by omega))
      exact lp_num1 X _ J cc ss I0 lo hi hlh (hT.cell (up2_row _ _ _ _ (by decide)) (up2_row _ _ _ _ (by decide))) ((up2_ne2 _ _ _ _ (by decide)).trans hn) (k + 1) (up2_same _ _ _ _) (by omega) ((up2_ne2 _ _ _ _ (by decide)).trans hq) (by omega) (hL.symm.trans hs).symm (nlt_succ2 hall (decide_eq_true (by omega))) _ (by
        rw [show k + 1 - q = (k - q) + 1 by omega]
        show _ = if 10 * nuF tx q (k - q) + (tx (q + (k - q)) - 48) < 1000 then 10 * nuF tx q (k - q) + (tx (q + (k - q)) - 48) else 1000
        rw [show q + (k - q) = k by omega]
        split <;> split <;> omega) (fun a ha => (up2_row _ _ _ _ ha).trans (hA a ha)) ((up2_ne2 _ _ _ _ (by decide)).trans hB) ((up2_ne2 _ _ _ _ (by decide)).trans hC)
termination_by n - k
decreasing_by all_goals omega
theorem sp_readNumber_u (X : AX) (I J : Nat → Nat → Int) (cc ss : Nat) (lo hi : Int) (hlo : -1000 < lo) (hhi : hi < 1000) {tx : F1} {n : Nat} (hT : TB I tx n) (hn : I 111 2 = (n : Int)) (k : Nat) (hp : I 111 3 = (k : Int)) (hkn : k ≤ n) (hl0 : 0 ≤ lo) : Ev X k_X4_readNumber (0, [some (vr 111), some (vi lo), some (vi hi), none, none], []) (MS I J cc ss) (PZ cc ss (fun z I' J' => J' = J ∧ CNu I I' (pnF tx n lo hi k) n (nsF tx n k lo) z)) := by
  have h900 := hT.le
  have hG : nsF tx n k lo = spF tx n k := by
    unfold nsF ngB; rw [decide_eq_false (show ¬ lo < 0 by omega)]; rfl
  have hF : pnF tx n lo hi k = pnU tx n false lo hi (spF tx n k) := by
    unfold pnF nsF ngB; rw [decide_eq_false (show ¬ lo < 0 by omega)]; rfl
  rw [hF, hG]
  refine ev_n (fr' := (1, [some (vr 111), some (vi lo), some (vi hi), none, none], [vi lo])) (S' := MS I J cc ss) 1 rfl ?_
  refine ev_if (c := .ge) (off := 16) rfl (by decide) (fun (g1 : 0 ≤ lo) => ?_) (fun (g1 : ¬ (0 ≤ lo)) => False.elim (by omega))
  show Ev X k_X4_readNumber (17, [some (vr 111), some (vi lo), some (vi hi), none, none], []) (MS I J cc ss) _
  refine ev_n (fr' := (34, [some (vr 111), some (vi lo), some (vi hi), some (vi 0), none], [vr 111])) (S' := MS I J cc ss) 5 rfl ?_
  refine ev_cp rfl rfl rfl ⟨Nat.le_of_ble_eq_true rfl, Nat.le_of_ble_eq_true rfl⟩ (sp_peek X _ _ _ _ hT hn k hp hkn) (fun I1 J q2 => ?_)
  obtain ⟨rfl, rAI1, rBI1, hp⟩ := q2
  show Ev X k_X4_readNumber (37, [some (vr 111), some (vi lo), some (vi hi), some (vi 0), none], [vi (atF tx n (spF tx n k))]) (MS I1 J cc ss) _
  have hn := (rBI1 2 (by decide)).trans hn
  have hT := hT.cell (rAI1 112 (by decide)) (rAI1 113 (by decide))
  have hkn := spF_le (tx := tx) (n := n) k hkn
  refine ev_n (fr' := (43, [some (vr 111), some (vi lo), some (vi hi), some (vi 0), none], [vi (I1 111 3), vr 111])) (S' := MS I1 J cc ss) 4 rfl ?_
  refine ev_eqi (hp) ?_
  show Ev X k_X4_readNumber (43, [some (vr 111), some (vi lo), some (vi hi), some (vi 0), none], [vi ((spF tx n k) : Int), vr 111]) (MS I1 J cc ss) _
  refine ev_n (fr' := (46, [some (vr 111), some (vi lo), some (vi hi), some (vi 0), none], [])) (S' := MS (up2 I1 111 4 ((spF tx n k) : Int)) J cc ss) 1 rfl ?_
  refine ev_n (fr' := (49, [some (vr 111), some (vi lo), some (vi hi), some (vi 0), some (vi 0)], [])) (S' := MS (up2 I1 111 4 ((spF tx n k) : Int)) J cc ss) 2 rfl ?_
  exact lp_num0 X _ J cc ss I lo hi (by omega) (hT.cell (up2_row _ _ _ _ (by decide)) (up2_row _ _ _ _ (by decide))) ((up2_ne2 _ _ _ _ (by decide)).trans hn) _ ((up2_ne2 _ _ _ _ (by decide)).trans hp) hkn (up2_same _ _ _ _) (Nat.le_refl _) rfl (fun j h1 h2 => absurd h1 (by omega)) 0 (by rw [Nat.sub_self]; rfl) (fun a ha => (up2_row _ _ _ _ ha).trans (rAI1 a ha)) ((up2_ne2 _ _ _ _ (by decide)).trans (rBI1 2 (by decide))) ((up2_ne2 _ _ _ _ (by decide)).trans (rBI1 7 (by decide)))
theorem sp_readNumber_s (X : AX) (I J : Nat → Nat → Int) (cc ss : Nat) (lo hi : Int) (hlo : -1000 < lo) (hhi : hi < 1000) {tx : F1} {n : Nat} (hT : TB I tx n) (hn : I 111 2 = (n : Int)) (k : Nat) (hp : I 111 3 = (k : Int)) (hkn : k ≤ n) (hl0 : lo < 0) : Ev X k_X4_readNumber (0, [some (vr 111), some (vi lo), some (vi hi), none, none], []) (MS I J cc ss) (PZ cc ss (fun z I' J' => J' = J ∧ CNu I I' (pnF tx n lo hi k) n (nsF tx n k lo) z)) := by
  have h900 := hT.le
  refine ev_n (fr' := (1, [some (vr 111), some (vi lo), some (vi hi), none, none], [vi lo])) (S' := MS I J cc ss) 1 rfl ?_
  refine ev_if (c := .ge) (off := 16) rfl (by decide) (fun (g1 : 0 ≤ lo) => False.elim (by omega)) (fun (g1 : ¬ (0 ≤ lo)) => ?_)
  show Ev X k_X4_readNumber (4, [some (vr 111), some (vi lo), some (vi hi), none, none], []) (MS I J cc ss) _
  refine ev_n (fr' := (5, [some (vr 111), some (vi lo), some (vi hi), none, none], [vr 111])) (S' := MS I J cc ss) 1 rfl ?_
  refine ev_cp rfl rfl rfl ⟨Nat.le_of_ble_eq_true rfl, Nat.le_of_ble_eq_true rfl⟩ (sp_peek X _ _ _ _ hT hn k hp hkn) (fun I1 J q2 => ?_)
  obtain ⟨rfl, rAI1, rBI1, hp⟩ := q2
  show Ev X k_X4_readNumber (8, [some (vr 111), some (vi lo), some (vi hi), none, none], [vi (atF tx n (spF tx n k))]) (MS I1 J cc ss) _
  have hn := (rBI1 2 (by decide)).trans hn
  have hT := hT.cell (rAI1 112 (by decide)) (rAI1 113 (by decide))
  have hkn := spF_le (tx := tx) (n := n) k hkn
  refine ev_n (fr' := (10, [some (vr 111), some (vi lo), some (vi hi), none, none], [vi 45, vi (atF tx n (spF tx n k))])) (S' := MS I1 J cc ss) 1 rfl ?_
  refine ev_ic (c := .ne) (off := 7) rfl (by decide) (fun (g2 : (atF tx n (spF tx n k)) ≠ 45) => ?_) (fun (g2 : ¬ ((atF tx n (spF tx n k)) ≠ 45)) => ?_)
  · show Ev X k_X4_readNumber (17, [some (vr 111), some (vi lo), some (vi hi), none, none], []) (MS I1 J cc ss) _
    refine ev_n (fr' := (34, [some (vr 111), some (vi lo), some (vi hi), some (vi 0), none], [vr 111])) (S' := MS I1 J cc ss) 5 rfl ?_
    have hN : ngB tx n k lo = false := by unfold ngB; rw [decide_eq_true (show lo < 0 by omega), decide_eq_false (by omega)]; rfl
    have hG : nsF tx n k lo = spF tx n (spF tx n k) := by unfold nsF; rw [hN]; rw [if_neg Bool.false_ne_true]; exact spF_idem.symm
    have hF : pnF tx n lo hi k = pnU tx n false lo hi (spF tx n (spF tx n k)) := by unfold pnF; rw [hN, hG]
    rw [hF, hG]
    refine ev_cp rfl rfl rfl ⟨Nat.le_of_ble_eq_true rfl, Nat.le_of_ble_eq_true rfl⟩ (sp_peek X _ _ _ _ hT hn (spF tx n k) hp hkn) (fun I3 J q4 => ?_)
    obtain ⟨rfl, rAI3, rBI3, hp⟩ := q4
    show Ev X k_X4_readNumber (37, [some (vr 111), some (vi lo), some (vi hi), some (vi 0), none], [vi (atF tx n (spF tx n (spF tx n k)))]) (MS I3 J cc ss) _
    have hn := (rBI3 2 (by decide)).trans hn
    have hT := hT.cell (rAI3 112 (by decide)) (rAI3 113 (by decide))
    have hkn := spF_le (tx := tx) (n := n) (spF tx n k) hkn
    refine ev_n (fr' := (43, [some (vr 111), some (vi lo), some (vi hi), some (vi 0), none], [vi (I3 111 3), vr 111])) (S' := MS I3 J cc ss) 4 rfl ?_
    refine ev_eqi (hp) ?_
    show Ev X k_X4_readNumber (43, [some (vr 111), some (vi lo), some (vi hi), some (vi 0), none], [vi ((spF tx n (spF tx n k)) : Int), vr 111]) (MS I3 J cc ss) _
    refine ev_n (fr' := (46, [some (vr 111), some (vi lo), some (vi hi), some (vi 0), none], [])) (S' := MS (up2 I3 111 4 ((spF tx n (spF tx n k)) : Int)) J cc ss) 1 rfl ?_
    refine ev_n (fr' := (49, [some (vr 111), some (vi lo), some (vi hi), some (vi 0), some (vi 0)], [])) (S' := MS (up2 I3 111 4 ((spF tx n (spF tx n k)) : Int)) J cc ss) 2 rfl ?_
    exact lp_num0 X _ J cc ss I lo hi (by omega) (hT.cell (up2_row _ _ _ _ (by decide)) (up2_row _ _ _ _ (by decide))) ((up2_ne2 _ _ _ _ (by decide)).trans hn) _ ((up2_ne2 _ _ _ _ (by decide)).trans hp) hkn (up2_same _ _ _ _) (Nat.le_refl _) rfl (fun j h1 h2 => absurd h1 (by omega)) 0 (by rw [Nat.sub_self]; rfl) (fun a ha => (up2_row _ _ _ _ ha).trans ((rAI3 a ha).trans (rAI1 a ha))) ((up2_ne2 _ _ _ _ (by decide)).trans ((rBI3 2 (by decide)).trans (rBI1 2 (by decide)))) ((up2_ne2 _ _ _ _ (by decide)).trans ((rBI3 7 (by decide)).trans (rBI1 7 (by decide))))
  · show Ev X k_X4_readNumber (13, [some (vr 111), some (vi lo), some (vi hi), none, none], []) (MS I1 J cc ss) _
    refine ev_n (fr' := (28, [some (vr 111), some (vi lo), some (vi hi), some (vi 1), none], [vi (I1 111 3), vr 111])) (S' := MS I1 J cc ss) 8 rfl ?_
    refine ev_eqi (hp) ?_
    show Ev X k_X4_readNumber (28, [some (vr 111), some (vi lo), some (vi hi), some (vi 1), none], [vi ((spF tx n k) : Int), vr 111]) (MS I1 J cc ss) _
    refine ev_n (fr' := (29, [some (vr 111), some (vi lo), some (vi hi), some (vi 1), none], [vi 1, vi ((spF tx n k) : Int), vr 111])) (S' := MS I1 J cc ss) 1 rfl ?_
    refine ev_add (z := ((spF tx n k) : Int) + 1) rfl (by omega) (by omega) (by omega) ?_
    show Ev X k_X4_readNumber (30, [some (vr 111), some (vi lo), some (vi hi), some (vi 1), none], [vi (((spF tx n k) : Int) + 1), vr 111]) (MS I1 J cc ss) _
    refine ev_n (fr' := (33, [some (vr 111), some (vi lo), some (vi hi), some (vi 1), none], [])) (S' := MS (up2 I1 111 3 (((spF tx n k) : Int) + 1)) J cc ss) 1 rfl ?_
    refine ev_n (fr' := (34, [some (vr 111), some (vi lo), some (vi hi), some (vi 1), none], [vr 111])) (S' := MS (up2 I1 111 3 (((spF tx n k) : Int) + 1)) J cc ss) 1 rfl ?_
    have hlt : spF tx n k < n := by
      rcases Nat.lt_or_ge (spF tx n k) n with h | h
      · exact h
      · rw [atF_out h] at g2; omega
    have hN : ngB tx n k lo = true := by unfold ngB; rw [decide_eq_true (show lo < 0 by omega), decide_eq_true (by omega)]; rfl
    have hG : nsF tx n k lo = spF tx n (spF tx n k + 1) := by unfold nsF; rw [hN]; rfl
    have hF : pnF tx n lo hi k = pnU tx n true lo hi (spF tx n (spF tx n k + 1)) := by unfold pnF; rw [hN, hG]
    rw [hF, hG]
    have hp : up2 I1 111 3 ((spF tx n k : Int) + 1) 111 3 = ((spF tx n k + 1 : Nat) : Int) := by rw [up2_same]; omega
    have hn : up2 I1 111 3 ((spF tx n k : Int) + 1) 111 2 = (n : Int) := (up2_ne2 _ _ _ _ (by decide)).trans hn
    have hT : TB (up2 I1 111 3 ((spF tx n k : Int) + 1)) tx n := hT.cell (up2_row _ _ _ _ (by decide)) (up2_row _ _ _ _ (by decide))
    have hkn : spF tx n k + 1 ≤ n := by omega
    refine ev_cp rfl rfl rfl ⟨Nat.le_of_ble_eq_true rfl, Nat.le_of_ble_eq_true rfl⟩ (sp_peek X _ _ _ _ hT hn (spF tx n k + 1) hp hkn) (fun I5 J q6 => ?_)
    obtain ⟨rfl, rAI5, rBI5, hp⟩ := q6
    show Ev X k_X4_readNumber (37, [some (vr 111), some (vi lo), some (vi hi), some (vi 1), none], [vi (atF tx n (spF tx n (spF tx n k + 1)))]) (MS I5 J cc ss) _
    have hn := (rBI5 2 (by decide)).trans hn
    have hT := hT.cell (rAI5 112 (by decide)) (rAI5 113 (by decide))
    have hkn := spF_le (tx := tx) (n := n) (spF tx n k + 1) hkn
    refine ev_n (fr' := (43, [some (vr 111), some (vi lo), some (vi hi), some (vi 1), none], [vi (I5 111 3), vr 111])) (S' := MS I5 J cc ss) 4 rfl ?_
    refine ev_eqi (hp) ?_
    show Ev X k_X4_readNumber (43, [some (vr 111), some (vi lo), some (vi hi), some (vi 1), none], [vi ((spF tx n (spF tx n k + 1)) : Int), vr 111]) (MS I5 J cc ss) _
    refine ev_n (fr' := (46, [some (vr 111), some (vi lo), some (vi hi), some (vi 1), none], [])) (S' := MS (up2 I5 111 4 ((spF tx n (spF tx n k + 1)) : Int)) J cc ss) 1 rfl ?_
    refine ev_n (fr' := (49, [some (vr 111), some (vi lo), some (vi hi), some (vi 1), some (vi 0)], [])) (S' := MS (up2 I5 111 4 ((spF tx n (spF tx n k + 1)) : Int)) J cc ss) 2 rfl ?_
    exact lp_num1 X _ J cc ss I lo hi (by omega) (hT.cell (up2_row _ _ _ _ (by decide)) (up2_row _ _ _ _ (by decide))) ((up2_ne2 _ _ _ _ (by decide)).trans hn) _ ((up2_ne2 _ _ _ _ (by decide)).trans hp) hkn (up2_same _ _ _ _) (Nat.le_refl _) rfl (fun j h1 h2 => absurd h1 (by omega)) 0 (by rw [Nat.sub_self]; rfl) (fun a ha => (up2_row _ _ _ _ ha).trans ((rAI5 a ha).trans ((up2_row _ _ _ _ ha).trans (rAI1 a ha)))) ((up2_ne2 _ _ _ _ (by decide)).trans ((rBI5 2 (by decide)).trans ((up2_ne2 _ _ _ _ (by decide)).trans (rBI1 2 (by decide))))) ((up2_ne2 _ _ _ _ (by decide)).trans ((rBI5 7 (by decide)).trans ((up2_ne2 _ _ _ _ (by decide)).trans (rBI1 7 (by decide)))))
theorem sp_readWordA (X : AX) (I J : Nat → Nat → Int) (cc ss : Nat) {tx : F1} {n : Nat} (hT : TB I tx n) (hn : I 111 2 = (n : Int)) (k : Nat) (hp : I 111 3 = (k : Int)) (hkn : k ≤ n) (hs : spF tx n k = k) : Ev X k_X4_readWord (0, [some (vr 111), none, none, none, none], []) (MS I J cc ss) (PV cc ss (some (vl (wdF tx n k))) (fun I' J' => J' = J ∧ (∀ a, a ≠ 111 → I' a = I a) ∧ (∀ f, f ≠ 3 → f ≠ 4 → I' 111 f = I 111 f) ∧ I' 111 3 = (leF tx n k : Int) ∧ I' 111 4 = (k : Int))) := by
  have h := sp_readWord X I J cc ss hT hn k hp hkn
  rw [hs] at h; exact h
