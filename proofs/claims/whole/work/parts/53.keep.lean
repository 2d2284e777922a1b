/-! KEEPING, the reference (printed by gen/g53.py) -/
def MH (J : F2) (hs : Nat → F1) (m : Nat) : Prop := ∀ q k, q < m → k < 477 → J 138 (477 * q + k) = hs q k
def onlyK (I I' J J' : F2) : Prop := (∀ a, a ≠ 135 → I' a = I a) ∧ (∀ f, f ≠ 3 → I' 135 f = I 135 f) ∧ ∀ a, a ≠ 138 → J' a = J a
theorem lp_keepc (X : AX) (I J : Nat → Nat → Int) (cc ss : Nat) (J0 : F2) {g : F1} {m : Nat} (hg : J0 136 = g) (hm : I 135 3 = (m : Int)) (hm8 : m ≤ 7) (k : Nat) (hk : k ≤ 477) (hJ : ∀ a, a ≠ 138 → J a = J0 a) (hZ : ∀ j, j < 477 * m → J 138 j = J0 138 j) (hC : ∀ q, q < k → J 138 (477 * m + q) = g q) : Ev X k_X9_keeps (52, [some (vr 135), some (vi (k : Int))], []) (MS I J cc ss) (PV cc ss none (fun I' J' => (∀ a, a ≠ 135 → I' a = I a) ∧ (∀ f, f ≠ 3 → I' 135 f = I 135 f) ∧ I' 135 3 = ((m + 1 : Nat) : Int) ∧ (∀ a, a ≠ 138 → J' a = J0 a) ∧ (∀ j, j < 477 * m → J' 138 j = J0 138 j) ∧ ∀ k, k < 477 → J' 138 (477 * m + k) = g k)) := by
  refine ev_n (fr' := (56, [some (vr 135), some (vi (k : Int))], [vi 477, vi (k : Int)])) (S' := MS I J cc ss) 2 rfl ?_
  refine ev_ic (c := .ge) (off := 30) rfl (by decide) (fun (g1 : 477 ≤ (k : Int)) => ?_) (fun (g1 : ¬ (477 ≤ (k : Int))) => ?_)
  · show Ev X k_X9_keeps (86, [some (vr 135), some (vi (k : Int))], []) (MS I J cc ss) _
    refine ev_n (fr' := (91, [some (vr 135), some (vi (k : Int))], [vi (I 135 3), vr 135])) (S' := MS I J cc ss) 3 rfl ?_
    refine ev_eqi (hm) ?_
    show Ev X k_X9_keeps (91, [some (vr 135), some (vi (k : Int))], [vi (m : Int), vr 135]) (MS I J cc ss) _
    refine ev_n (fr' := (92, [some (vr 135), some (vi (k : Int))], [vi 1, vi (m : Int), vr 135])) (S' := MS I J cc ss) 1 rfl ?_
    refine ev_add (z := (m : Int) + 1) rfl (by omega) (by omega) (by omega) ?_
    show Ev X k_X9_keeps (93, [some (vr 135), some (vi (k : Int))], [vi ((m : Int) + 1), vr 135]) (MS I J cc ss) _
    refine ev_n (fr' := (96, [some (vr 135), some (vi (k : Int))], [])) (S' := MS (up2 I 135 3 ((m : Int) + 1)) J cc ss) 1 rfl ?_
    refine ev_r rfl rfl rfl ?_
    refine ⟨_, _, rfl, rfl, fun a ha => up2_row _ _ _ _ ha, fun f hf => up2_ne2 _ _ _ _ hf, ?_, hJ, hZ, fun q hq => hC q (by omega)⟩
    rw [up2_same]; omega
  · show Ev X k_X9_keeps (59, [some (vr 135), some (vi (k : Int))], []) (MS I J cc ss) _
    refine ev_n (fr' := (70, [some (vr 135), some (vi (k : Int))], [vi (I 135 3), vi 477, vr 138])) (S' := MS I J cc ss) 5 rfl ?_
    refine ev_eqi (hm) ?_
    show Ev X k_X9_keeps (70, [some (vr 135), some (vi (k : Int))], [vi (m : Int), vi 477, vr 138]) (MS I J cc ss) _
    refine ev_mul (z := 477 * (m : Int)) rfl (by omega) (by omega) (by omega) ?_
    show Ev X k_X9_keeps (71, [some (vr 135), some (vi (k : Int))], [vi (477 * (m : Int)), vr 138]) (MS I J cc ss) _
    refine ev_n (fr' := (72, [some (vr 135), some (vi (k : Int))], [vi (k : Int), vi (477 * (m : Int)), vr 138])) (S' := MS I J cc ss) 1 rfl ?_
    refine ev_add (z := 477 * (m : Int) + (k : Int)) rfl (by omega) (by omega) (by omega) ?_
    show Ev X k_X9_keeps (73, [some (vr 135), some (vi (k : Int))], [vi (477 * (m : Int) + (k : Int)), vr 138]) (MS I J cc ss) _
    refine ev_n (fr' := (78, [some (vr 135), some (vi (k : Int))], [vi (k : Int), vr 136, vi (477 * (m : Int) + (k : Int)), vr 138])) (S' := MS I J cc ss) 3 rfl ?_
    refine ev_laN (j := k) (z := (g k)) rfl rfl (by omega) (by omega) ((congrFun (hJ 136 (by decide)) _).trans (congrFun hg _)) ?_
    show Ev X k_X9_keeps (79, [some (vr 135), some (vi (k : Int))], [vl (g k), vi (477 * (m : Int) + (k : Int)), vr 138]) (MS I J cc ss) _
    refine ev_lasN (j := 477 * m + k) rfl rfl (by omega) (by omega) ?_
    show Ev X k_X9_keeps (80, [some (vr 135), some (vi (k : Int))], []) (MS I (up2 J 138 (477 * m + k) (g k)) cc ss) _
    refine ev_inc (z := (k : Int) + 1) rfl rfl (by omega) (by omega) (by omega) rfl ?_
    show Ev X k_X9_keeps (83, [some (vr 135), some (vi ((k : Int) + 1))], []) (MS I (up2 J 138 (477 * m + k) (g k)) cc ss) _
    refine ev_n (fr' := (52, [some (vr 135), some (vi ((k : Int) + 1))], [])) (S' := MS I (up2 J 138 (477 * m + k) (g k)) cc ss) 1 rfl ?_
    exact lp_keepc X I _ cc ss J0 hg hm hm8 (k + 1) (by omega) (fun a ha => by rw [up2_row _ _ _ _ ha]; exact hJ a ha) (fun j hj => by rw [up2_ne2 _ _ _ _ (by omega)]; exact hZ j hj) (fun q hq => by
      by_cases e1 : q = k
      · rw [e1, up2_same]
      · rw [up2_ne2 _ _ _ _ (by omega)]; exact hC q (by omega))
termination_by 477 - k
decreasing_by all_goals omega
theorem lp_keeps (X : AX) (I J : Nat → Nat → Int) (cc ss : Nat) (J0 : F2) {g : F1} {hs : Nat → F1} (hg : J0 136 = g) (hm : I 135 3 = 8) (hH : MH J0 hs 8) (k : Nat) (hk : k ≤ 3339) (hJ : ∀ a, a ≠ 138 → J a = J0 a) (hS : ∀ j, j < k → J 138 j = J0 138 (j + 477)) (hR : ∀ j, k ≤ j → J 138 j = J0 138 j) : Ev X k_X9_keeps (11, [some (vr 135), some (vi (k : Int))], []) (MS I J cc ss) (PV cc ss none (fun I' J' => onlyK I I' J0 J' ∧ I' 135 3 = (remM 8 : Int) ∧ MH J' (remH hs 8 g) (remM 8))) := by
  refine ev_n (fr' := (15, [some (vr 135), some (vi (k : Int))], [vi 3339, vi (k : Int)])) (S' := MS I J cc ss) 2 rfl ?_
  refine ev_ic (c := .ge) (off := 25) rfl (by decide) (fun (g1 : 3339 ≤ (k : Int)) => ?_) (fun (g1 : ¬ (3339 ≤ (k : Int))) => ?_)
  · show Ev X k_X9_keeps (40, [some (vr 135), some (vi (k : Int))], []) (MS I J cc ss) _
    refine ev_n (fr' := (45, [some (vr 135), some (vi (k : Int))], [vi (I 135 3), vr 135])) (S' := MS I J cc ss) 3 rfl ?_
    refine ev_eqi (hm) ?_
    show Ev X k_X9_keeps (45, [some (vr 135), some (vi (k : Int))], [vi 8, vr 135]) (MS I J cc ss) _
    refine ev_n (fr' := (47, [some (vr 135), some (vi (k : Int))], [vi 7, vr 135])) (S' := MS I J cc ss) 2 rfl ?_
    refine ev_n (fr' := (50, [some (vr 135), some (vi (k : Int))], [])) (S' := MS (up2 I 135 3 7) J cc ss) 1 rfl ?_
    refine ev_n (fr' := (52, [some (vr 135), some (vi 0)], [])) (S' := MS (up2 I 135 3 7) J cc ss) 2 rfl ?_
    refine (lp_keepc X _ _ cc ss J ((hJ 136 (by decide)).trans hg) (m := 7) (by rw [up2_same]; omega) (by omega) 0 (by omega) (fun _ _ => rfl) (fun _ _ => rfl) (fun q hq => absurd hq (by omega))).mono ?_
    rintro o T ⟨I', J', rfl, rfl, h1, h2, h3, h4, h5, h6⟩
    refine ⟨I', J', rfl, rfl, ⟨fun a ha => (h1 a ha).trans (up2_row _ _ _ _ ha), fun f hf => (h2 f hf).trans (up2_ne2 _ _ _ _ hf), fun a ha => (h4 a ha).trans (hJ a ha)⟩, h3, ?_⟩
    intro q k9 hq hk9
    unfold remM at hq
    rw [if_pos rfl] at hq
    unfold remH
    rw [if_pos rfl]
    by_cases h7 : q < 7
    · rw [if_pos h7, h5 _ (by omega), hS _ (by omega), show 477 * q + k9 + 477 = 477 * (q + 1) + k9 by omega]; exact hH _ _ (by omega) hk9
    · rw [if_neg h7, show 477 * q + k9 = 477 * 7 + k9 by omega]; exact h6 k9 hk9
  · show Ev X k_X9_keeps (18, [some (vr 135), some (vi (k : Int))], []) (MS I J cc ss) _
    refine ev_n (fr' := (31, [some (vr 135), some (vi (k : Int))], [vi 477, vi (k : Int), vr 138, vi (k : Int), vr 138])) (S' := MS I J cc ss) 7 rfl ?_
    refine ev_add (z := (k : Int) + 477) rfl (by omega) (by omega) (by omega) ?_
    show Ev X k_X9_keeps (32, [some (vr 135), some (vi (k : Int))], [vi ((k : Int) + 477), vr 138, vi (k : Int), vr 138]) (MS I J cc ss) _
    refine ev_laN (j := k + 477) (z := (J 138 (k + 477))) rfl rfl (by omega) (by omega) (rfl) ?_
    show Ev X k_X9_keeps (33, [some (vr 135), some (vi (k : Int))], [vl (J 138 (k + 477)), vi (k : Int), vr 138]) (MS I J cc ss) _
    refine ev_lasN (j := k) rfl rfl (by omega) (by omega) ?_
    show Ev X k_X9_keeps (34, [some (vr 135), some (vi (k : Int))], []) (MS I (up2 J 138 k (J 138 (k + 477))) cc ss) _
    refine ev_inc (z := (k : Int) + 1) rfl rfl (by omega) (by omega) (by omega) rfl ?_
    show Ev X k_X9_keeps (37, [some (vr 135), some (vi ((k : Int) + 1))], []) (MS I (up2 J 138 k (J 138 (k + 477))) cc ss) _
    refine ev_n (fr' := (11, [some (vr 135), some (vi ((k : Int) + 1))], [])) (S' := MS I (up2 J 138 k (J 138 (k + 477))) cc ss) 1 rfl ?_
    exact lp_keeps X I _ cc ss J0 hg hm hH (k + 1) (by omega) (fun a ha => by rw [up2_row _ _ _ _ ha]; exact hJ a ha) (fun j hj => by
      by_cases e1 : j = k
      · rw [e1, up2_same]; exact hR (k + 477) (by omega)
      · rw [up2_ne2 _ _ _ _ e1]; exact hS j (by omega)) (fun j hj => by rw [up2_ne2 _ _ _ _ (by omega)]; exact hR j (by omega))
termination_by 3339 - k
decreasing_by all_goals omega
theorem sp_keeps (X : AX) (I J : Nat → Nat → Int) (cc ss : Nat) {g : F1} {hs : Nat → F1} {m : Nat} (hg : J 136 = g) (hm : I 135 3 = (m : Int)) (hm8 : m ≤ 8) (hH : MH J hs m) : Ev X k_X9_keeps (0, [some (vr 135), none], []) (MS I J cc ss) (PV cc ss none (fun I' J' => onlyK I I' J J' ∧ I' 135 3 = (remM m : Int) ∧ MH J' (remH hs m g) (remM m))) := by
  refine ev_n (fr' := (4, [some (vr 135), none], [vi (I 135 3)])) (S' := MS I J cc ss) 2 rfl ?_
  refine ev_eqi (hm) ?_
  show Ev X k_X9_keeps (4, [some (vr 135), none], [vi (m : Int)]) (MS I J cc ss) _
  refine ev_n (fr' := (6, [some (vr 135), none], [vi 8, vi (m : Int)])) (S' := MS I J cc ss) 1 rfl ?_
  refine ev_ic (c := .ne) (off := 44) rfl (by decide) (fun (g1 : (m : Int) ≠ 8) => ?_) (fun (g1 : ¬ ((m : Int) ≠ 8)) => ?_)
  · show Ev X k_X9_keeps (50, [some (vr 135), none], []) (MS I J cc ss) _
    refine ev_n (fr' := (52, [some (vr 135), some (vi 0)], [])) (S' := MS I J cc ss) 2 rfl ?_
    refine (lp_keepc X _ _ cc ss J hg hm (by omega) 0 (by omega) (fun _ _ => rfl) (fun _ _ => rfl) (fun q hq => absurd hq (by omega))).mono ?_
    rintro o T ⟨I', J', rfl, rfl, h1, h2, h3, h4, h5, h6⟩
    have e8 : ¬ m = 8 := by omega
    refine ⟨I', J', rfl, rfl, ⟨h1, h2, h4⟩, ?_, ?_⟩
    · unfold remM; rw [if_neg e8]; exact h3
    intro q k9 hq hk9
    unfold remM at hq
    rw [if_neg e8] at hq
    unfold remH
    rw [if_neg e8]
    by_cases h7 : q = m
    · rw [if_pos h7, h7]; exact h6 k9 hk9
    · rw [if_neg h7, h5 _ (by omega)]; exact hH q k9 (by omega) hk9
  · show Ev X k_X9_keeps (9, [some (vr 135), none], []) (MS I J cc ss) _
    refine ev_n (fr' := (11, [some (vr 135), some (vi 0)], [])) (S' := MS I J cc ss) 2 rfl ?_
    have e8 : m = 8 := by omega
    subst e8
    exact lp_keeps X I _ cc ss J hg hm hH 0 (by omega) (fun _ _ => rfl) (fun j hj => absurd hj (by omega)) (fun _ _ => rfl)
theorem lp_becomes (X : AX) (I J : Nat → Nat → Int) (cc ss : Nat) (J0 : F2) (k : Nat) (hk : k ≤ 477) (hJ : ∀ a, a ≠ 136 → J a = J0 a) (hC : ∀ q, J 136 q = if q < k then J0 137 q else J0 136 q) : Ev X k_X9_becomes (2, [some (vr 135), some (vi (k : Int))], []) (MS I J cc ss) (PV cc ss none (fun I' J' => I' = I ∧ (∀ a, a ≠ 136 → J' a = J0 a) ∧ ∀ k, J' 136 k = if k < 477 then J0 137 k else J0 136 k)) := by
  refine ev_n (fr' := (6, [some (vr 135), some (vi (k : Int))], [vi 477, vi (k : Int)])) (S' := MS I J cc ss) 2 rfl ?_
  refine ev_ic (c := .ge) (off := 21) rfl (by decide) (fun (g1 : 477 ≤ (k : Int)) => ?_) (fun (g1 : ¬ (477 ≤ (k : Int))) => ?_)
  · show Ev X k_X9_becomes (27, [some (vr 135), some (vi (k : Int))], []) (MS I J cc ss) _
    refine ev_r rfl rfl rfl ?_
    exact ⟨_, _, rfl, rfl, rfl, hJ, fun q => by rw [hC q, show k = 477 by omega]⟩
  · show Ev X k_X9_becomes (9, [some (vr 135), some (vi (k : Int))], []) (MS I J cc ss) _
    refine ev_n (fr' := (19, [some (vr 135), some (vi (k : Int))], [vi (k : Int), vr 137, vi (k : Int), vr 136])) (S' := MS I J cc ss) 6 rfl ?_
    refine ev_laN (j := k) (z := (J 137 k)) rfl rfl (by omega) (by omega) (rfl) ?_
    show Ev X k_X9_becomes (20, [some (vr 135), some (vi (k : Int))], [vl (J 137 k), vi (k : Int), vr 136]) (MS I J cc ss) _
    refine ev_lasN (j := k) rfl rfl (by omega) (by omega) ?_
    show Ev X k_X9_becomes (21, [some (vr 135), some (vi (k : Int))], []) (MS I (up2 J 136 k (J 137 k)) cc ss) _
    refine ev_inc (z := (k : Int) + 1) rfl rfl (by omega) (by omega) (by omega) rfl ?_
    show Ev X k_X9_becomes (24, [some (vr 135), some (vi ((k : Int) + 1))], []) (MS I (up2 J 136 k (J 137 k)) cc ss) _
    refine ev_n (fr' := (2, [some (vr 135), some (vi ((k : Int) + 1))], [])) (S' := MS I (up2 J 136 k (J 137 k)) cc ss) 1 rfl ?_
    exact lp_becomes X I _ cc ss J0 (k + 1) (by omega) (fun a ha => by rw [up2_row _ _ _ _ ha]; exact hJ a ha) (fun q => by
      by_cases e1 : q = k
      · rw [e1, up2_same, if_pos (by omega), hJ 137 (by decide)]
      · rw [up2_ne2 _ _ _ _ e1, hC q]
        by_cases e2 : q < k
        · rw [if_pos e2, if_pos (by omega)]
        · rw [if_neg e2, if_neg (by omega)])
termination_by 477 - k
decreasing_by all_goals omega
theorem sp_becomes (X : AX) (I J : Nat → Nat → Int) (cc ss : Nat) : Ev X k_X9_becomes (0, [some (vr 135), none], []) (MS I J cc ss) (PV cc ss none (fun I' J' => I' = I ∧ (∀ a, a ≠ 136 → J' a = J a) ∧ ∀ k, J' 136 k = if k < 477 then J 137 k else J 136 k)) := by
  refine ev_n (fr' := (2, [some (vr 135), some (vi 0)], [])) (S' := MS I J cc ss) 2 rfl ?_
  exact lp_becomes X I _ cc ss J 0 (by omega) (fun _ _ => rfl) (fun q => by rw [if_neg (by omega)])
theorem lp_undo (X : AX) (I J : Nat → Nat → Int) (cc ss : Nat) (J0 : F2) {m : Nat} (hm : I 135 3 = (m : Int)) (hm8 : m ≤ 7) (k : Nat) (hk : k ≤ 477) (hJ : ∀ a, a ≠ 136 → J a = J0 a) (hC : ∀ q, J 136 q = if q < k then J0 138 (477 * m + q) else J0 136 q) : Ev X k_X9_undo (37, [some (vr 135), some (vi (k : Int))], []) (MS I J cc ss) (PV cc ss (some (vi (m : Int))) (fun I' J' => I' = I ∧ (∀ a, a ≠ 136 → J' a = J0 a) ∧ ∀ k, J' 136 k = if k < 477 then J0 138 (477 * m + k) else J0 136 k)) := by
  refine ev_n (fr' := (41, [some (vr 135), some (vi (k : Int))], [vi 477, vi (k : Int)])) (S' := MS I J cc ss) 2 rfl ?_
  refine ev_ic (c := .ge) (off := 30) rfl (by decide) (fun (g1 : 477 ≤ (k : Int)) => ?_) (fun (g1 : ¬ (477 ≤ (k : Int))) => ?_)
  · show Ev X k_X9_undo (71, [some (vr 135), some (vi (k : Int))], []) (MS I J cc ss) _
    refine ev_n (fr' := (75, [some (vr 135), some (vi (k : Int))], [vi (I 135 3)])) (S' := MS I J cc ss) 2 rfl ?_
    refine ev_eqi (hm) ?_
    show Ev X k_X9_undo (75, [some (vr 135), some (vi (k : Int))], [vi (m : Int)]) (MS I J cc ss) _
    refine ev_r rfl rfl rfl ?_
    exact ⟨_, _, rfl, rfl, rfl, hJ, fun q => by rw [hC q, show k = 477 by omega]⟩
  · show Ev X k_X9_undo (44, [some (vr 135), some (vi (k : Int))], []) (MS I J cc ss) _
    refine ev_n (fr' := (60, [some (vr 135), some (vi (k : Int))], [vi (I 135 3), vi 477, vr 138, vi (k : Int), vr 136])) (S' := MS I J cc ss) 8 rfl ?_
    refine ev_eqi (hm) ?_
    show Ev X k_X9_undo (60, [some (vr 135), some (vi (k : Int))], [vi (m : Int), vi 477, vr 138, vi (k : Int), vr 136]) (MS I J cc ss) _
    refine ev_mul (z := 477 * (m : Int)) rfl (by omega) (by omega) (by omega) ?_
    show Ev X k_X9_undo (61, [some (vr 135), some (vi (k : Int))], [vi (477 * (m : Int)), vr 138, vi (k : Int), vr 136]) (MS I J cc ss) _
    refine ev_n (fr' := (62, [some (vr 135), some (vi (k : Int))], [vi (k : Int), vi (477 * (m : Int)), vr 138, vi (k : Int), vr 136])) (S' := MS I J cc ss) 1 rfl ?_
    refine ev_add (z := 477 * (m : Int) + (k : Int)) rfl (by omega) (by omega) (by omega) ?_
    show Ev X k_X9_undo (63, [some (vr 135), some (vi (k : Int))], [vi (477 * (m : Int) + (k : Int)), vr 138, vi (k : Int), vr 136]) (MS I J cc ss) _
    refine ev_laN (j := 477 * m + k) (z := (J 138 (477 * m + k))) rfl rfl (by omega) (by omega) (rfl) ?_
    show Ev X k_X9_undo (64, [some (vr 135), some (vi (k : Int))], [vl (J 138 (477 * m + k)), vi (k : Int), vr 136]) (MS I J cc ss) _
    refine ev_lasN (j := k) rfl rfl (by omega) (by omega) ?_
    show Ev X k_X9_undo (65, [some (vr 135), some (vi (k : Int))], []) (MS I (up2 J 136 k (J 138 (477 * m + k))) cc ss) _
    refine ev_inc (z := (k : Int) + 1) rfl rfl (by omega) (by omega) (by omega) rfl ?_
    show Ev X k_X9_undo (68, [some (vr 135), some (vi ((k : Int) + 1))], []) (MS I (up2 J 136 k (J 138 (477 * m + k))) cc ss) _
    refine ev_n (fr' := (37, [some (vr 135), some (vi ((k : Int) + 1))], [])) (S' := MS I (up2 J 136 k (J 138 (477 * m + k))) cc ss) 1 rfl ?_
    exact lp_undo X I _ cc ss J0 hm hm8 (k + 1) (by omega) (fun a ha => by rw [up2_row _ _ _ _ ha]; exact hJ a ha) (fun q => by
      by_cases e1 : q = k
      · rw [e1, up2_same, if_pos (by omega), hJ 138 (by decide)]
      · rw [up2_ne2 _ _ _ _ e1, hC q]
        by_cases e2 : q < k
        · rw [if_pos e2, if_pos (by omega)]
        · rw [if_neg e2, if_neg (by omega)])
termination_by 477 - k
decreasing_by all_goals omega
