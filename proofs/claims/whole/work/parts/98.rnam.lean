/-! THE REFERENCE reads names (printed by gen/g98.py) -/
theorem wd_kd {tx : F1} {n a : Nat} (h : wdF tx n a ≠ 0) : (a < n ∧ isLe (tx a) = true) ∧ leF tx n a - a ≤ 8 := by
  refine ⟨?_, ?_⟩
  · rcases Nat.lt_or_ge a n with h1 | h1
    · refine ⟨h1, ?_⟩
      cases hb : isLe (tx a)
      · exact absurd (wdF_0 (leF_not (Or.inr hb))) h
      · rfl
    · exact absurd (wdF_0 (leF_not (Or.inl h1))) h
  · unfold wdF at h
    by_cases h1 : leF tx n a - a ≤ 8
    · exact h1
    · rw [if_neg h1] at h; exact absurd rfl h
theorem wd_nz {tx : F1} {n a : Nat} (h : a < n ∧ isLe (tx a) = true) (h8 : leF tx n a - a ≤ 8) : wdF tx n a ≠ 0 := by
  have h1 := leF_lt h.1 h.2
  have h2 := nmF_rng (tx := tx) (a := a) (leF tx n a - a) (fun q q1 q2 => scF_all a q q1 (show q < leF tx n a by omega))
  unfold wdF; rw [if_pos h8]
  have := h2.2.2 (by omega)
  omega
theorem wd_rng {tx : F1} {n a : Nat} : 0 ≤ wdF tx n a ∧ wdF tx n a < 1099511627776 := by
  unfold wdF
  split
  · rename_i h8
    have h1 := leF_ge (tx := tx) (n := n) a
    have h2 := nmF_rng (tx := tx) (a := a) (leF tx n a - a) (fun q q1 q2 => scF_all a q q1 (show q < leF tx n a by omega))
    have h3 := pow8 h8
    omega
  · decide
def nnR (tx : F1) (n : Nat) (f : Nat → Int) (m a : Nat) : Nat ⊕ (Int × Nat) := if wdF tx n a = 0 then .inr (-2, a) else if fnd f (wdF tx n a) m 0 = -1 then .inl (leF tx n a) else .inr (-3, a)
theorem lp_nh (X : AX) (I J : Nat → Nat → Int) (cc ss : Nat) {tx : F1} {n : Nat} (hR : RB I tx n) (a : Nat) (hw0 : I 135 11 = 0) (hz : wdF tx n a ≠ 0) (hle : I 135 9 = (leF tx n a : Int)) (w : Int) (k : Nat) (hk : a ≤ k ∧ k ≤ leF tx n a) (hw : w = nmF tx a (k - a)) : Ev X k_X9_nameHere (41, [some (vr 135), some (vl w), none, some (vi (k : Int))], []) (MS I J cc ss) (fun o T => o = .inl (some (vl (wdF tx n a))) ∧ T = MS I J cc ss) := by
  have hb := wd_kd hz
  have h900 := hR.1
  have hn9 := leF_le (tx := tx) (n := n) a (by omega)
  have hr := nmF_rng (tx := tx) (a := a) (k - a) (fun j h1 h2 => scF_all a j h1 (show j < leF tx n a by omega))
  have hp := pow8 (show k - a ≤ 8 by omega)
  rw [← hw] at hr
  refine ev_n (fr' := (45, [some (vr 135), some (vl w), none, some (vi (k : Int))], [vi (I 135 11)])) (S' := MS I J cc ss) 2 rfl ?_
  refine ev_eqi (hw0) ?_
  show Ev X k_X9_nameHere (45, [some (vr 135), some (vl w), none, some (vi (k : Int))], [vi 0]) (MS I J cc ss) _
  refine ev_n (fr' := (53, [some (vr 135), some (vl w), none, some (vi (k : Int))], [vi (I 135 9), vi (k : Int)])) (S' := MS I J cc ss) 4 rfl ?_
  refine ev_eqi (hle) ?_
  show Ev X k_X9_nameHere (53, [some (vr 135), some (vl w), none, some (vi (k : Int))], [vi ((leF tx n a) : Int), vi (k : Int)]) (MS I J cc ss) _
  refine ev_ic (c := .ge) (off := 27) rfl (by decide) (fun (g1 : ((leF tx n a) : Int) ≤ (k : Int)) => ?_) (fun (g1 : ¬ (((leF tx n a) : Int) ≤ (k : Int))) => ?_)
  · show Ev X k_X9_nameHere (80, [some (vr 135), some (vl w), none, some (vi (k : Int))], []) (MS I J cc ss) _
    refine ev_n (fr' := (81, [some (vr 135), some (vl w), none, some (vi (k : Int))], [vl w])) (S' := MS I J cc ss) 1 rfl ?_
    refine ev_r rfl rfl rfl ?_
    have ek : k = leF tx n a := by omega
    exact ⟨congrArg (fun z => Sum.inl (some (vl z))) (by unfold wdF; rw [if_pos hb.2, hw, ek]), rfl⟩
  · show Ev X k_X9_nameHere (56, [some (vr 135), some (vl w), none, some (vi (k : Int))], []) (MS I J cc ss) _
    have ht := (hR.2.2 k (by omega)).2
    refine ev_n (fr' := (60, [some (vr 135), some (vl w), none, some (vi (k : Int))], [vl w, vl 32])) (S' := MS I J cc ss) 2 rfl ?_
    refine ev_lmul (z := 32 * w) rfl (by omega) (by omega) (by omega) ?_
    show Ev X k_X9_nameHere (61, [some (vr 135), some (vl w), none, some (vi (k : Int))], [vl (32 * w)]) (MS I J cc ss) _
    refine ev_n (fr' := (66, [some (vr 135), some (vl w), none, some (vi (k : Int))], [vi (k : Int), vr 139, vl (32 * w)])) (S' := MS I J cc ss) 3 rfl ?_
    refine ev_iaN (j := k) (z := (tx k)) rfl rfl (by omega) (by omega) ((hR.2.2 k (by omega)).1) ?_
    show Ev X k_X9_nameHere (67, [some (vr 135), some (vl w), none, some (vi (k : Int))], [vi (tx k), vl (32 * w)]) (MS I J cc ss) _
    refine ev_n (fr' := (68, [some (vr 135), some (vl w), none, some (vi (k : Int))], [vl (tx k), vl (32 * w)])) (S' := MS I J cc ss) 1 rfl ?_
    refine ev_ladd (z := 32 * w + (tx k)) rfl (by omega) (by omega) (by omega) ?_
    show Ev X k_X9_nameHere (69, [some (vr 135), some (vl w), none, some (vi (k : Int))], [vl (32 * w + (tx k))]) (MS I J cc ss) _
    refine ev_n (fr' := (72, [some (vr 135), some (vl w), none, some (vi (k : Int))], [vl 96, vl (32 * w + (tx k))])) (S' := MS I J cc ss) 1 rfl ?_
    refine ev_lsub (z := 32 * w + (tx k) - 96) rfl (by omega) (by omega) (by omega) ?_
    show Ev X k_X9_nameHere (73, [some (vr 135), some (vl w), none, some (vi (k : Int))], [vl (32 * w + (tx k) - 96)]) (MS I J cc ss) _
    refine ev_n (fr' := (74, [some (vr 135), some (vl (32 * w + (tx k) - 96)), none, some (vi (k : Int))], [])) (S' := MS I J cc ss) 1 rfl ?_
    refine ev_inc (z := (k : Int) + 1) rfl rfl (by omega) (by omega) (by omega) rfl ?_
    show Ev X k_X9_nameHere (77, [some (vr 135), some (vl (32 * w + (tx k) - 96)), none, some (vi ((k : Int) + 1))], []) (MS I J cc ss) _
    refine ev_n (fr' := (41, [some (vr 135), some (vl (32 * w + (tx k) - 96)), none, some (vi ((k : Int) + 1))], [])) (S' := MS I J cc ss) 1 rfl ?_
    exact lp_nh X _ _ cc ss hR a hw0 hz hle _ (k + 1) (by omega) (by
      rw [show k + 1 - a = (k - a) + 1 by omega]
      show _ = 32 * nmF tx a (k - a) + (tx (a + (k - a)) - 96)
      rw [show a + (k - a) = k by omega, ← hw]; omega)
termination_by leF tx n a - k
decreasing_by all_goals omega
theorem sp_nameHere1 (X : AX) (I J : Nat → Nat → Int) (cc ss : Nat) {tx : F1} {n : Nat} (hR : RB I tx n) (a : Nat) (hK : TK I J tx n a) (hw0 : I 135 11 = 0) (hz : wdF tx n a ≠ 0) : Ev X k_X9_nameHere (0, [some (vr 135), none, none, none], []) (MS I J cc ss) (fun o T => o = .inl (some (vl (wdF tx n a))) ∧ T = MS I J cc ss) := by
  obtain ⟨ha, hsa, h8, h9, h10, hno⟩ := hK
  obtain ⟨h900, h7, hbf⟩ := hR
  have hb := wd_kd hz
  have hk0 := kd_0.mpr hb.1
  have hle : I 135 9 = (leF tx n a : Int) := h9.trans (by rw [en_0 hb.1])
  have hge := leF_ge (tx := tx) (n := n) a
  refine ev_n (fr' := (4, [some (vr 135), none, none, none], [vi (I 135 11)])) (S' := MS I J cc ss) 2 rfl ?_
  refine ev_eqi (hw0) ?_
  show Ev X k_X9_nameHere (4, [some (vr 135), none, none, none], [vi 0]) (MS I J cc ss) _
  refine ev_n (fr' := (11, [some (vr 135), none, none, none], [vi (I 135 10)])) (S' := MS I J cc ss) 3 rfl ?_
  refine ev_eqi (h10) ?_
  show Ev X k_X9_nameHere (11, [some (vr 135), none, none, none], [vi (kdF tx n a)]) (MS I J cc ss) _
  refine ev_if (c := .ne) (off := 17) rfl (by decide) (fun (g1 : (kdF tx n a) ≠ 0) => False.elim (by omega)) (fun (g1 : ¬ ((kdF tx n a) ≠ 0)) => ?_)
  show Ev X k_X9_nameHere (14, [some (vr 135), none, none, none], []) (MS I J cc ss) _
  refine ev_n (fr' := (18, [some (vr 135), none, none, none], [vi (I 135 9)])) (S' := MS I J cc ss) 2 rfl ?_
  refine ev_eqi (hle) ?_
  show Ev X k_X9_nameHere (18, [some (vr 135), none, none, none], [vi ((leF tx n a) : Int)]) (MS I J cc ss) _
  refine ev_n (fr' := (22, [some (vr 135), none, none, none], [vi (I 135 8), vi ((leF tx n a) : Int)])) (S' := MS I J cc ss) 2 rfl ?_
  refine ev_eqi (h8) ?_
  show Ev X k_X9_nameHere (22, [some (vr 135), none, none, none], [vi (a : Int), vi ((leF tx n a) : Int)]) (MS I J cc ss) _
  refine ev_sub (z := ((leF tx n a) : Int) - (a : Int)) rfl (by omega) (by omega) (by omega) ?_
  show Ev X k_X9_nameHere (23, [some (vr 135), none, none, none], [vi (((leF tx n a) : Int) - (a : Int))]) (MS I J cc ss) _
  refine ev_n (fr' := (25, [some (vr 135), none, none, none], [vi 8, vi (((leF tx n a) : Int) - (a : Int))])) (S' := MS I J cc ss) 1 rfl ?_
  refine ev_ic (c := .le) (off := 9) rfl (by decide) (fun (g2 : ((leF tx n a) : Int) - (a : Int) ≤ 8) => ?_) (fun (g2 : ¬ (((leF tx n a) : Int) - (a : Int) ≤ 8)) => False.elim (by omega))
  show Ev X k_X9_nameHere (34, [some (vr 135), none, none, none], []) (MS I J cc ss) _
  refine ev_n (fr' := (40, [some (vr 135), some (vl 0), none, none], [vi (I 135 8)])) (S' := MS I J cc ss) 4 rfl ?_
  refine ev_eqi (h8) ?_
  show Ev X k_X9_nameHere (40, [some (vr 135), some (vl 0), none, none], [vi (a : Int)]) (MS I J cc ss) _
  refine ev_n (fr' := (41, [some (vr 135), some (vl 0), none, some (vi (a : Int))], [])) (S' := MS I J cc ss) 1 rfl ?_
  exact lp_nh X _ _ cc ss ⟨h900, h7, hbf⟩ a hw0 hz hle 0 a ⟨Nat.le_refl _, hge⟩ (by rw [Nat.sub_self]; rfl)
theorem sp_nameHere0 (X : AX) (I J : Nat → Nat → Int) (cc ss : Nat) {tx : F1} {n : Nat} (hR : RB I tx n) (a : Nat) (hK : TK I J tx n a) (hw0 : I 135 11 = 0) (hz : wdF tx n a = 0) : Ev X k_X9_nameHere (0, [some (vr 135), none, none, none], []) (MS I J cc ss) (fun o T => o = .inl (some (vl 0)) ∧ T = MS (up2 (up2 I 135 11 (-2)) 135 12 (a : Int)) J cc ss) := by
  obtain ⟨ha, hsa, h8, h9, h10, hno⟩ := hK
  obtain ⟨h900, h7, hbf⟩ := hR
  have hen2 := en_le (tx := tx) ha
  refine ev_n (fr' := (4, [some (vr 135), none, none, none], [vi (I 135 11)])) (S' := MS I J cc ss) 2 rfl ?_
  refine ev_eqi (hw0) ?_
  show Ev X k_X9_nameHere (4, [some (vr 135), none, none, none], [vi 0]) (MS I J cc ss) _
  refine ev_n (fr' := (11, [some (vr 135), none, none, none], [vi (I 135 10)])) (S' := MS I J cc ss) 3 rfl ?_
  refine ev_eqi (h10) ?_
  show Ev X k_X9_nameHere (11, [some (vr 135), none, none, none], [vi (kdF tx n a)]) (MS I J cc ss) _
  refine ev_if (c := .ne) (off := 17) rfl (by decide) (fun (g1 : (kdF tx n a) ≠ 0) => ?_) (fun (g1 : ¬ ((kdF tx n a) ≠ 0)) => ?_)
  · show Ev X k_X9_nameHere (28, [some (vr 135), none, none, none], []) (MS I J cc ss) _
    refine ev_n (fr' := (31, [some (vr 135), none, none, none], [vi (-2), vr 135])) (S' := MS I J cc ss) 2 rfl ?_
    refine ev_cv rfl rfl rfl ⟨Nat.le_of_ble_eq_true rfl, Nat.le_of_ble_eq_true rfl⟩ (sp_fails X _ _ _ _ (-2) a hw0 h8) ?_
    show Ev X k_X9_nameHere (34, [some (vr 135), none, none, none], []) (MS (up2 (up2 I 135 11 (-2)) 135 12 (a : Int)) J cc ss) _
    refine ev_n (fr' := (41, [some (vr 135), some (vl 0), none, some (vi (I 135 8))], [])) (S' := MS (up2 (up2 I 135 11 (-2)) 135 12 (a : Int)) J cc ss) 5 rfl ?_
    refine ev_n (fr' := (81, [some (vr 135), some (vl 0), none, some (vi (I 135 8))], [vl 0])) (S' := MS (up2 (up2 I 135 11 (-2)) 135 12 (a : Int)) J cc ss) 4 rfl ?_
    refine ev_r rfl rfl rfl ?_
    exact ⟨rfl, rfl⟩
  · show Ev X k_X9_nameHere (14, [some (vr 135), none, none, none], []) (MS I J cc ss) _
    refine ev_n (fr' := (18, [some (vr 135), none, none, none], [vi (I 135 9)])) (S' := MS I J cc ss) 2 rfl ?_
    refine ev_eqi (h9) ?_
    show Ev X k_X9_nameHere (18, [some (vr 135), none, none, none], [vi ((enF tx n a) : Int)]) (MS I J cc ss) _
    refine ev_n (fr' := (22, [some (vr 135), none, none, none], [vi (I 135 8), vi ((enF tx n a) : Int)])) (S' := MS I J cc ss) 2 rfl ?_
    refine ev_eqi (h8) ?_
    show Ev X k_X9_nameHere (22, [some (vr 135), none, none, none], [vi (a : Int), vi ((enF tx n a) : Int)]) (MS I J cc ss) _
    refine ev_sub (z := ((enF tx n a) : Int) - (a : Int)) rfl (by omega) (by omega) (by omega) ?_
    show Ev X k_X9_nameHere (23, [some (vr 135), none, none, none], [vi (((enF tx n a) : Int) - (a : Int))]) (MS I J cc ss) _
    refine ev_n (fr' := (25, [some (vr 135), none, none, none], [vi 8, vi (((enF tx n a) : Int) - (a : Int))])) (S' := MS I J cc ss) 1 rfl ?_
    refine ev_ic (c := .le) (off := 9) rfl (by decide) (fun (g2 : ((enF tx n a) : Int) - (a : Int) ≤ 8) => ?_) (fun (g2 : ¬ (((enF tx n a) : Int) - (a : Int) ≤ 8)) => ?_)
    · show Ev X k_X9_nameHere (34, [some (vr 135), none, none, none], []) (MS I J cc ss) _
      refine ev_n (fr' := (40, [some (vr 135), some (vl 0), none, none], [vi (I 135 8)])) (S' := MS I J cc ss) 4 rfl ?_
      refine ev_eqi (h8) ?_
      show Ev X k_X9_nameHere (40, [some (vr 135), some (vl 0), none, none], [vi (a : Int)]) (MS I J cc ss) _
      refine ev_n (fr' := (41, [some (vr 135), some (vl 0), none, some (vi (a : Int))], [])) (S' := MS I J cc ss) 1 rfl ?_
      exfalso
      have hk0 := kd_0.mp (by omega : kdF tx n a = 0)
      have hen := en_0 hk0
      exact wd_nz hk0 (by omega) hz
    · show Ev X k_X9_nameHere (28, [some (vr 135), none, none, none], []) (MS I J cc ss) _
      refine ev_n (fr' := (31, [some (vr 135), none, none, none], [vi (-2), vr 135])) (S' := MS I J cc ss) 2 rfl ?_
      refine ev_cv rfl rfl rfl ⟨Nat.le_of_ble_eq_true rfl, Nat.le_of_ble_eq_true rfl⟩ (sp_fails X _ _ _ _ (-2) a hw0 h8) ?_
      show Ev X k_X9_nameHere (34, [some (vr 135), none, none, none], []) (MS (up2 (up2 I 135 11 (-2)) 135 12 (a : Int)) J cc ss) _
      refine ev_n (fr' := (41, [some (vr 135), some (vl 0), none, some (vi (I 135 8))], [])) (S' := MS (up2 (up2 I 135 11 (-2)) 135 12 (a : Int)) J cc ss) 5 rfl ?_
      refine ev_n (fr' := (81, [some (vr 135), some (vl 0), none, some (vi (I 135 8))], [vl 0])) (S' := MS (up2 (up2 I 135 11 (-2)) 135 12 (a : Int)) J cc ss) 4 rfl ?_
      refine ev_r rfl rfl rfl ?_
      exact ⟨rfl, rfl⟩
theorem sp_nameHereE (X : AX) (I J : Nat → Nat → Int) (cc ss : Nat) (hwE : I 135 11 ≠ 0) : Ev X k_X9_nameHere (0, [some (vr 135), none, none, none], []) (MS I J cc ss) (fun o T => o = .inl (some (vl 0)) ∧ T = MS I J cc ss) := by
  refine ev_n (fr' := (4, [some (vr 135), none, none, none], [vi (I 135 11)])) (S' := MS I J cc ss) 2 rfl ?_
  refine ev_if (c := .ne) (off := 30) rfl (by decide) (fun (g1 : (I 135 11) ≠ 0) => ?_) (fun (g1 : ¬ ((I 135 11) ≠ 0)) => False.elim (g1 hwE))
  show Ev X k_X9_nameHere (34, [some (vr 135), none, none, none], []) (MS I J cc ss) _
  refine ev_n (fr' := (45, [some (vr 135), some (vl 0), none, some (vi (I 135 8))], [vi (I 135 11)])) (S' := MS I J cc ss) 7 rfl ?_
  refine ev_if (c := .ne) (off := 35) rfl (by decide) (fun (g2 : (I 135 11) ≠ 0) => ?_) (fun (g2 : ¬ ((I 135 11) ≠ 0)) => False.elim (g2 hwE))
  show Ev X k_X9_nameHere (80, [some (vr 135), some (vl 0), none, some (vi (I 135 8))], []) (MS I J cc ss) _
  refine ev_n (fr' := (81, [some (vr 135), some (vl 0), none, some (vi (I 135 8))], [vl 0])) (S' := MS I J cc ss) 1 rfl ?_
  refine ev_r rfl rfl rfl ?_
  exact ⟨rfl, rfl⟩
theorem lp_nnE (X : AX) (I J : Nat → Nat → Int) (cc ss : Nat) (f m : Nat) (x : Int) (hm : m ≤ 8) (hwE : I 135 11 ≠ 0) (k : Nat) : Ev X k_X9_newName (9, [some (vr 135), some (vi (f : Int)), some (vl (m : Int)), none, some (vl x), none, some (vi (k : Int))], []) (MS I J cc ss) (fun o T => o = .inl (some (vl x)) ∧ T = MS I J cc ss) := by
  refine ev_n (fr' := (13, [some (vr 135), some (vi (f : Int)), some (vl (m : Int)), none, some (vl x), none, some (vi (k : Int))], [vl (m : Int), vl (k : Int)])) (S' := MS I J cc ss) 3 rfl ?_
  refine ev_lc (c := .ge) (off := 37) rfl rfl (by decide) (fun (g1 : (m : Int) ≤ (k : Int)) => ?_) (fun (g1 : ¬ ((m : Int) ≤ (k : Int))) => ?_)
  · show Ev X k_X9_newName (51, [some (vr 135), some (vi (f : Int)), some (vl (m : Int)), none, some (vl x), none, some (vi (k : Int))], []) (MS I J cc ss) _
    refine ev_n (fr' := (56, [some (vr 135), some (vi (f : Int)), some (vl (m : Int)), none, some (vl x), none, some (vi (k : Int))], [vi (I 135 11), vr 135])) (S' := MS I J cc ss) 3 rfl ?_
    refine ev_if (c := .ne) (off := 7) rfl (by decide) (fun (g2 : (I 135 11) ≠ 0) => ?_) (fun (g2 : ¬ ((I 135 11) ≠ 0)) => False.elim (g2 hwE))
    show Ev X k_X9_newName (63, [some (vr 135), some (vi (f : Int)), some (vl (m : Int)), none, some (vl x), none, some (vi (k : Int))], [vr 135]) (MS I J cc ss) _
    refine ev_n (fr' := (64, [some (vr 135), some (vi (f : Int)), some (vl (m : Int)), none, some (vl x), none, some (vi (k : Int))], [vi 0, vr 135])) (S' := MS I J cc ss) 1 rfl ?_
    refine ev_cv rfl rfl rfl ⟨Nat.le_of_ble_eq_true rfl, Nat.le_of_ble_eq_true rfl⟩ (sp_mustE0 X _ _ _ _ hwE) ?_
    show Ev X k_X9_newName (67, [some (vr 135), some (vi (f : Int)), some (vl (m : Int)), none, some (vl x), none, some (vi (k : Int))], []) (MS I J cc ss) _
    refine ev_n (fr' := (69, [some (vr 135), some (vi (f : Int)), some (vl (m : Int)), none, some (vl x), none, some (vi (k : Int))], [vl x])) (S' := MS I J cc ss) 1 rfl ?_
    refine ev_r rfl rfl rfl ?_
    exact ⟨rfl, rfl⟩
  · show Ev X k_X9_newName (17, [some (vr 135), some (vi (f : Int)), some (vl (m : Int)), none, some (vl x), none, some (vi (k : Int))], []) (MS I J cc ss) _
    refine ev_n (fr' := (21, [some (vr 135), some (vi (f : Int)), some (vl (m : Int)), none, some (vl x), none, some (vi (k : Int))], [vi (I 135 11)])) (S' := MS I J cc ss) 2 rfl ?_
    refine ev_if (c := .ne) (off := 24) rfl (by decide) (fun (g3 : (I 135 11) ≠ 0) => ?_) (fun (g3 : ¬ ((I 135 11) ≠ 0)) => False.elim (g3 hwE))
    show Ev X k_X9_newName (45, [some (vr 135), some (vi (f : Int)), some (vl (m : Int)), none, some (vl x), none, some (vi (k : Int))], []) (MS I J cc ss) _
    refine ev_inc (z := (k : Int) + 1) rfl rfl (by omega) (by omega) (by omega) rfl ?_
    show Ev X k_X9_newName (48, [some (vr 135), some (vi (f : Int)), some (vl (m : Int)), none, some (vl x), none, some (vi ((k : Int) + 1))], []) (MS I J cc ss) _
    refine ev_n (fr' := (9, [some (vr 135), some (vi (f : Int)), some (vl (m : Int)), none, some (vl x), none, some (vi ((k : Int) + 1))], [])) (S' := MS I J cc ss) 1 rfl ?_
    exact lp_nnE X _ _ cc ss f m x hm hwE (k + 1)
termination_by 9 - k
decreasing_by all_goals omega
theorem lp_nn (X : AX) (I J : Nat → Nat → Int) (cc ss : Nat) {tx : F1} {n : Nat} (hR : RB I tx n) (a : Nat) (hK : TK I J tx n a) (hw0 : I 135 11 = 0) (f m : Nat) (hm : m ≤ 8) (hf : f ≤ 469) {d : F1} (hd : J 137 = d) (x : Int) (hk0 : a < n ∧ isLe (tx a) = true) (k : Nat) (hk : k ≤ m) (hq : ∀ q, q < k → d (q + f) ≠ x) : Ev X k_X9_newName (9, [some (vr 135), some (vi (f : Int)), some (vl (m : Int)), none, some (vl x), none, some (vi (k : Int))], []) (MS I J cc ss) (PV cc ss (some (vl x)) (fun I' J' => RO I I' J J' tx n (if fnd (fun r => d (r + f)) x m 0 = -1 then .inl (leF tx n a) else .inr (-3, a)))) := by
  have h8 := hK.2.2.1
  refine ev_n (fr' := (13, [some (vr 135), some (vi (f : Int)), some (vl (m : Int)), none, some (vl x), none, some (vi (k : Int))], [vl (m : Int), vl (k : Int)])) (S' := MS I J cc ss) 3 rfl ?_
  refine ev_lc (c := .ge) (off := 37) rfl rfl (by decide) (fun (g1 : (m : Int) ≤ (k : Int)) => ?_) (fun (g1 : ¬ ((m : Int) ≤ (k : Int))) => ?_)
  · show Ev X k_X9_newName (51, [some (vr 135), some (vi (f : Int)), some (vl (m : Int)), none, some (vl x), none, some (vi (k : Int))], []) (MS I J cc ss) _
    refine ev_n (fr' := (56, [some (vr 135), some (vi (f : Int)), some (vl (m : Int)), none, some (vl x), none, some (vi (k : Int))], [vi (I 135 11), vr 135])) (S' := MS I J cc ss) 3 rfl ?_
    refine ev_eqi (hw0) ?_
    show Ev X k_X9_newName (56, [some (vr 135), some (vi (f : Int)), some (vl (m : Int)), none, some (vl x), none, some (vi (k : Int))], [vi 0, vr 135]) (MS I J cc ss) _
    refine ev_n (fr' := (64, [some (vr 135), some (vi (f : Int)), some (vl (m : Int)), none, some (vl x), none, some (vi (k : Int))], [vi 1, vr 135])) (S' := MS I J cc ss) 3 rfl ?_
    refine ev_cp rfl rfl rfl ⟨Nat.le_of_ble_eq_true rfl, Nat.le_of_ble_eq_true rfl⟩ (sp_mustT X _ _ _ _ hR a hK hw0) (fun I1 J2 q3 => ?_)
    obtain ⟨hK9, hO9, hw9⟩ := q3
    show Ev X k_X9_newName (67, [some (vr 135), some (vi (f : Int)), some (vl (m : Int)), none, some (vl x), none, some (vi (k : Int))], []) (MS I1 J2 cc ss) _
    refine ev_n (fr' := (69, [some (vr 135), some (vi (f : Int)), some (vl (m : Int)), none, some (vl x), none, some (vi (k : Int))], [vl x])) (S' := MS I1 J2 cc ss) 1 rfl ?_
    refine ev_r rfl rfl rfl ?_
    rw [if_pos (fnd_miss m 0 (fun q _ h => hq q (by omega)))]
    rw [en_0 hk0] at hK9
    exact ⟨_, _, rfl, rfl, hO9, hK9, hw9, leF_le (tx := tx) (n := n) a hK.1⟩
  · show Ev X k_X9_newName (17, [some (vr 135), some (vi (f : Int)), some (vl (m : Int)), none, some (vl x), none, some (vi (k : Int))], []) (MS I J cc ss) _
    refine ev_n (fr' := (21, [some (vr 135), some (vi (f : Int)), some (vl (m : Int)), none, some (vl x), none, some (vi (k : Int))], [vi (I 135 11)])) (S' := MS I J cc ss) 2 rfl ?_
    refine ev_eqi (hw0) ?_
    show Ev X k_X9_newName (21, [some (vr 135), some (vi (f : Int)), some (vl (m : Int)), none, some (vl x), none, some (vi (k : Int))], [vi 0]) (MS I J cc ss) _
    refine ev_n (fr' := (31, [some (vr 135), some (vi (f : Int)), some (vl (m : Int)), none, some (vl x), none, some (vi (k : Int))], [vi (k : Int), vi (f : Int), vr 137])) (S' := MS I J cc ss) 5 rfl ?_
    refine ev_add (z := (f : Int) + (k : Int)) rfl (by omega) (by omega) (by omega) ?_
    show Ev X k_X9_newName (32, [some (vr 135), some (vi (f : Int)), some (vl (m : Int)), none, some (vl x), none, some (vi (k : Int))], [vi ((f : Int) + (k : Int)), vr 137]) (MS I J cc ss) _
    refine ev_laN (j := f + k) (z := (d (k + f))) rfl rfl (by omega) (by omega) ((congrFun hd _).trans (congrArg d (Nat.add_comm _ _))) ?_
    show Ev X k_X9_newName (33, [some (vr 135), some (vi (f : Int)), some (vl (m : Int)), none, some (vl x), none, some (vi (k : Int))], [vl (d (k + f))]) (MS I J cc ss) _
    refine ev_n (fr' := (35, [some (vr 135), some (vi (f : Int)), some (vl (m : Int)), none, some (vl x), none, some (vi (k : Int))], [vl x, vl (d (k + f))])) (S' := MS I J cc ss) 1 rfl ?_
    refine ev_lc (c := .ne) (off := 9) rfl rfl (by decide) (fun (g2 : (d (k + f)) ≠ x) => ?_) (fun (g2 : ¬ ((d (k + f)) ≠ x)) => ?_)
    · show Ev X k_X9_newName (45, [some (vr 135), some (vi (f : Int)), some (vl (m : Int)), none, some (vl x), none, some (vi (k : Int))], []) (MS I J cc ss) _
      refine ev_inc (z := (k : Int) + 1) rfl rfl (by omega) (by omega) (by omega) rfl ?_
      show Ev X k_X9_newName (48, [some (vr 135), some (vi (f : Int)), some (vl (m : Int)), none, some (vl x), none, some (vi ((k : Int) + 1))], []) (MS I J cc ss) _
      refine ev_n (fr' := (9, [some (vr 135), some (vi (f : Int)), some (vl (m : Int)), none, some (vl x), none, some (vi ((k : Int) + 1))], [])) (S' := MS I J cc ss) 1 rfl ?_
      exact lp_nn X _ _ cc ss hR a hK hw0 f m hm hf hd x hk0 (k + 1) (by omega) (nlt_succ hq g2)
    · show Ev X k_X9_newName (39, [some (vr 135), some (vi (f : Int)), some (vl (m : Int)), none, some (vl x), none, some (vi (k : Int))], []) (MS I J cc ss) _
      refine ev_n (fr' := (42, [some (vr 135), some (vi (f : Int)), some (vl (m : Int)), none, some (vl x), none, some (vi (k : Int))], [vi (-3), vr 135])) (S' := MS I J cc ss) 2 rfl ?_
      refine ev_cv rfl rfl rfl ⟨Nat.le_of_ble_eq_true rfl, Nat.le_of_ble_eq_true rfl⟩ (sp_fails X _ _ _ _ (-3) a hw0 h8) ?_
      show Ev X k_X9_newName (45, [some (vr 135), some (vi (f : Int)), some (vl (m : Int)), none, some (vl x), none, some (vi (k : Int))], []) (MS (up2 (up2 I 135 11 (-3)) 135 12 (a : Int)) J cc ss) _
      refine ev_inc (z := (k : Int) + 1) rfl rfl (by omega) (by omega) (by omega) rfl ?_
      show Ev X k_X9_newName (48, [some (vr 135), some (vi (f : Int)), some (vl (m : Int)), none, some (vl x), none, some (vi ((k : Int) + 1))], []) (MS (up2 (up2 I 135 11 (-3)) 135 12 (a : Int)) J cc ss) _
      refine ev_n (fr' := (9, [some (vr 135), some (vi (f : Int)), some (vl (m : Int)), none, some (vl x), none, some (vi ((k : Int) + 1))], [])) (S' := MS (up2 (up2 I 135 11 (-3)) 135 12 (a : Int)) J cc ss) 1 rfl ?_
      refine (lp_nnE X _ _ cc ss f m x hm (EE.ne (EE.mk (by decide))) (k + 1)).mono ?_
      rintro o T ⟨rfl, rfl⟩
      have hx := fnd_hit (f := fun r => d (r + f)) (x := x) (k := k) (by omega) m 0 (fun q _ h => hq q h) (by omega) (by omega)
      rw [if_neg (by omega)]
      exact ⟨_, _, rfl, rfl, (onlyL.refl _ _).e, EE.mk (by decide)⟩
termination_by 9 - k
decreasing_by all_goals omega
theorem sp_newName (X : AX) (I J : Nat → Nat → Int) (cc ss : Nat) {tx : F1} {n : Nat} (hR : RB I tx n) (a : Nat) (hK : TK I J tx n a) (hw0 : I 135 11 = 0) (f m : Nat) (hm : m ≤ 8) (hf : f ≤ 469) {d : F1} (hd : J 137 = d) : Ev X k_X9_newName (0, [some (vr 135), some (vi (f : Int)), some (vl (m : Int)), none, none, none, none], []) (MS I J cc ss) (PV cc ss (some (vl (wdF tx n a))) (fun I' J' => RO I I' J J' tx n (nnR tx n (fun r => d (r + f)) m a))) := by
  refine ev_n (fr' := (1, [some (vr 135), some (vi (f : Int)), some (vl (m : Int)), none, none, none, none], [vr 135])) (S' := MS I J cc ss) 1 rfl ?_
  rcases Decidable.em (wdF tx n a = 0) with hz | hz
  · show Ev X k_X9_newName (1, [some (vr 135), some (vi (f : Int)), some (vl (m : Int)), none, none, none, none], [vr 135]) (MS I J cc ss) _
    refine ev_cv rfl rfl rfl ⟨Nat.le_of_ble_eq_true rfl, Nat.le_of_ble_eq_true rfl⟩ (sp_nameHere0 X _ _ _ _ hR a hK hw0 hz) ?_
    show Ev X k_X9_newName (4, [some (vr 135), some (vi (f : Int)), some (vl (m : Int)), none, none, none, none], [vl 0]) (MS (up2 (up2 I 135 11 (-2)) 135 12 (a : Int)) J cc ss) _
    refine ev_n (fr' := (9, [some (vr 135), some (vi (f : Int)), some (vl (m : Int)), none, some (vl 0), none, some (vi 0)], [])) (S' := MS (up2 (up2 I 135 11 (-2)) 135 12 (a : Int)) J cc ss) 3 rfl ?_
    refine (lp_nnE X _ _ cc ss f m 0 hm (EE.ne (EE.mk (by decide))) 0).mono ?_
    rintro o T ⟨rfl, rfl⟩
    have hX : nnR tx n (fun r => d (r + f)) m a = .inr (-2, a) := if_pos hz
    rw [hX]
    exact ⟨_, _, rfl, congrArg (fun z => Sum.inl (some (vl z))) hz.symm, (onlyL.refl _ _).e, EE.mk (by decide)⟩
  · show Ev X k_X9_newName (1, [some (vr 135), some (vi (f : Int)), some (vl (m : Int)), none, none, none, none], [vr 135]) (MS I J cc ss) _
    refine ev_cv rfl rfl rfl ⟨Nat.le_of_ble_eq_true rfl, Nat.le_of_ble_eq_true rfl⟩ (sp_nameHere1 X _ _ _ _ hR a hK hw0 hz) ?_
    show Ev X k_X9_newName (4, [some (vr 135), some (vi (f : Int)), some (vl (m : Int)), none, none, none, none], [vl (wdF tx n a)]) (MS I J cc ss) _
    refine ev_n (fr' := (9, [some (vr 135), some (vi (f : Int)), some (vl (m : Int)), none, some (vl (wdF tx n a)), none, some (vi 0)], [])) (S' := MS I J cc ss) 3 rfl ?_
    have hX : nnR tx n (fun r => d (r + f)) m a = (if fnd (fun r => d (r + f)) (wdF tx n a) m 0 = -1 then .inl (leF tx n a) else .inr (-3, a)) := if_neg hz
    rw [hX]
    exact lp_nn X _ _ cc ss hR a hK hw0 f m hm hf hd _ (wd_kd hz).1 0 (by omega) (fun q h => absurd h (by omega))
theorem sp_newNameE (X : AX) (I J : Nat → Nat → Int) (cc ss : Nat) (f m : Nat) (hm : m ≤ 8) (hwE : I 135 11 ≠ 0) : Ev X k_X9_newName (0, [some (vr 135), some (vi (f : Int)), some (vl (m : Int)), none, none, none, none], []) (MS I J cc ss) (fun o T => o = .inl (some (vl 0)) ∧ T = MS I J cc ss) := by
  refine ev_n (fr' := (1, [some (vr 135), some (vi (f : Int)), some (vl (m : Int)), none, none, none, none], [vr 135])) (S' := MS I J cc ss) 1 rfl ?_
  refine ev_cv rfl rfl rfl ⟨Nat.le_of_ble_eq_true rfl, Nat.le_of_ble_eq_true rfl⟩ (sp_nameHereE X _ _ _ _ hwE) ?_
  show Ev X k_X9_newName (4, [some (vr 135), some (vi (f : Int)), some (vl (m : Int)), none, none, none, none], [vl 0]) (MS I J cc ss) _
  refine ev_n (fr' := (9, [some (vr 135), some (vi (f : Int)), some (vl (m : Int)), none, some (vl 0), none, some (vi 0)], [])) (S' := MS I J cc ss) 3 rfl ?_
  exact lp_nnE X _ _ cc ss f m 0 hm hwE 0
