/-! PUBLIC QUESTIONS, reference (printed by gen/g75.py) -/
theorem rb_count_x (X : AX) (I J : Nat → Nat → Int) (cc ss : Nat) {g : F1} (z : Int) (hg : J 136 = g) (hws : WS g) (hwp : WP g) (hwi : WI g) (h : ¬ (0 ≤ z ∧ z ≤ 5)) : Ev X k_X9_count (0, [some (vr 135), some (vi z)], []) (MS I J cc ss) (fun o T => o = .inl (some (vi 0)) ∧ T = MS (up2 I 135 4 1) J cc ss) := by
  have q0 := hws.1
  have q1 := hws.2.1
  have q2 := hwp.1
  have q3 := hwp.2.1
  have q4 := hwi.1
  have q5 := hwi.2.1
  refine ev_n (fr' := (7, [some (vr 135), some (vi z)], [vl 5, vl 0, vl z, vr 135])) (S' := MS I J cc ss) 5 rfl ?_
  refine ev_cv rfl rfl rfl ⟨Nat.le_of_ble_eq_true rfl, Nat.le_of_ble_eq_true rfl⟩ (sp_isIn X _ z 0 5 ) ?_
  show Ev X k_X9_count (10, [some (vr 135), some (vi z)], [vi (if 0 ≤ z ∧ z ≤ 5 then 1 else 0), vr 135]) (MS I J cc ss) _
  refine ev_beq _ rfl (by decide) (fun (g1 : ¬ (0 ≤ z ∧ z ≤ 5)) => ?_) (fun (g1 : 0 ≤ z ∧ z ≤ 5) => False.elim ((show ¬ (0 ≤ z ∧ z ≤ 5) from by omega) g1))
  show Ev X k_X9_count (17, [some (vr 135), some (vi z)], [vr 135]) (MS I J cc ss) _
  refine ev_n (fr' := (18, [some (vr 135), some (vi z)], [vi 1, vr 135])) (S' := MS I J cc ss) 1 rfl ?_
  refine ev_n (fr' := (21, [some (vr 135), some (vi z)], [])) (S' := MS (up2 I 135 4 1) J cc ss) 1 rfl ?_
  refine ev_n (fr' := (29, [some (vr 135), some (vi z)], [vi 0])) (S' := MS (up2 I 135 4 1) J cc ss) 4 rfl ?_
  refine ev_r rfl rfl rfl ?_
  exact ⟨rfl, rfl⟩
theorem rb_count_0 (X : AX) (I J : Nat → Nat → Int) (cc ss : Nat) {g : F1}  (hg : J 136 = g) (hws : WS g) (hwp : WP g) (hwi : WI g)  : Ev X k_X9_count (0, [some (vr 135), some (vi 0)], []) (MS I J cc ss) (PV cc ss (some (vi (g 0))) (fun I' J' => J' = J ∧ scrM (up2 I 135 4 0) I')) := by
  have q0 := hws.1
  have q1 := hws.2.1
  have q2 := hwp.1
  have q3 := hwp.2.1
  have q4 := hwi.1
  have q5 := hwi.2.1
  refine ev_n (fr' := (7, [some (vr 135), some (vi 0)], [vl 5, vl 0, vl 0, vr 135])) (S' := MS I J cc ss) 5 rfl ?_
  refine ev_cv rfl rfl rfl ⟨Nat.le_of_ble_eq_true rfl, Nat.le_of_ble_eq_true rfl⟩ (sp_isIn X _ 0 0 5 ) ?_
  show Ev X k_X9_count (10, [some (vr 135), some (vi 0)], [vi (if 0 ≤ 0 ∧ 0 ≤ 5 then 1 else 0), vr 135]) (MS I J cc ss) _
  refine ev_beq _ rfl (by decide) (fun (g1 : ¬ (0 ≤ 0 ∧ 0 ≤ 5)) => False.elim (g1 (by omega))) (fun (g1 : 0 ≤ 0 ∧ 0 ≤ 5) => ?_)
  show Ev X k_X9_count (13, [some (vr 135), some (vi 0)], [vr 135]) (MS I J cc ss) _
  refine ev_n (fr' := (18, [some (vr 135), some (vi 0)], [vi 0, vr 135])) (S' := MS I J cc ss) 2 rfl ?_
  refine ev_n (fr' := (21, [some (vr 135), some (vi 0)], [])) (S' := MS (up2 I 135 4 0) J cc ss) 1 rfl ?_
  refine ev_n (fr' := (69, [some (vr 135), some (vi 0)], [vi 0, vr 136])) (S' := MS (up2 I 135 4 0) J cc ss) 8 rfl ?_
  refine ev_laN (j := 0) (z := (g 0)) rfl rfl (by omega) (by omega) (congrFun hg _) ?_
  show Ev X k_X9_count (70, [some (vr 135), some (vi 0)], [vl (g 0)]) (MS (up2 I 135 4 0) J cc ss) _
  refine ev_l2i rfl (by omega) (by omega) ?_
  show Ev X k_X9_count (71, [some (vr 135), some (vi 0)], [vi (g 0)]) (MS (up2 I 135 4 0) J cc ss) _
  refine ev_r rfl rfl rfl ?_
  exact ⟨_, _, rfl, rfl, rfl, scrM.refl _⟩
theorem rb_count_1 (X : AX) (I J : Nat → Nat → Int) (cc ss : Nat) {g : F1}  (hg : J 136 = g) (hws : WS g) (hwp : WP g) (hwi : WI g)  : Ev X k_X9_count (0, [some (vr 135), some (vi 1)], []) (MS I J cc ss) (PV cc ss (some (vi (g 11))) (fun I' J' => J' = J ∧ scrM (up2 I 135 4 0) I')) := by
  have q0 := hws.1
  have q1 := hws.2.1
  have q2 := hwp.1
  have q3 := hwp.2.1
  have q4 := hwi.1
  have q5 := hwi.2.1
  refine ev_n (fr' := (7, [some (vr 135), some (vi 1)], [vl 5, vl 0, vl 1, vr 135])) (S' := MS I J cc ss) 5 rfl ?_
  refine ev_cv rfl rfl rfl ⟨Nat.le_of_ble_eq_true rfl, Nat.le_of_ble_eq_true rfl⟩ (sp_isIn X _ 1 0 5 ) ?_
  show Ev X k_X9_count (10, [some (vr 135), some (vi 1)], [vi (if 0 ≤ 1 ∧ 1 ≤ 5 then 1 else 0), vr 135]) (MS I J cc ss) _
  refine ev_beq _ rfl (by decide) (fun (g1 : ¬ (0 ≤ 1 ∧ 1 ≤ 5)) => False.elim (g1 (by omega))) (fun (g1 : 0 ≤ 1 ∧ 1 ≤ 5) => ?_)
  show Ev X k_X9_count (13, [some (vr 135), some (vi 1)], [vr 135]) (MS I J cc ss) _
  refine ev_n (fr' := (18, [some (vr 135), some (vi 1)], [vi 0, vr 135])) (S' := MS I J cc ss) 2 rfl ?_
  refine ev_n (fr' := (21, [some (vr 135), some (vi 1)], [])) (S' := MS (up2 I 135 4 0) J cc ss) 1 rfl ?_
  refine ev_n (fr' := (78, [some (vr 135), some (vi 1)], [vi 11, vr 136])) (S' := MS (up2 I 135 4 0) J cc ss) 8 rfl ?_
  refine ev_laN (j := 11) (z := (g 11)) rfl rfl (by omega) (by omega) (congrFun hg _) ?_
  show Ev X k_X9_count (79, [some (vr 135), some (vi 1)], [vl (g 11)]) (MS (up2 I 135 4 0) J cc ss) _
  refine ev_l2i rfl (by omega) (by omega) ?_
  show Ev X k_X9_count (80, [some (vr 135), some (vi 1)], [vi (g 11)]) (MS (up2 I 135 4 0) J cc ss) _
  refine ev_r rfl rfl rfl ?_
  exact ⟨_, _, rfl, rfl, rfl, scrM.refl _⟩
theorem rb_count_2 (X : AX) (I J : Nat → Nat → Int) (cc ss : Nat) {g : F1}  (hg : J 136 = g) (hws : WS g) (hwp : WP g) (hwi : WI g)  : Ev X k_X9_count (0, [some (vr 135), some (vi 2)], []) (MS I J cc ss) (PV cc ss (some (vi (g 308))) (fun I' J' => J' = J ∧ scrM (up2 I 135 4 0) I')) := by
  have q0 := hws.1
  have q1 := hws.2.1
  have q2 := hwp.1
  have q3 := hwp.2.1
  have q4 := hwi.1
  have q5 := hwi.2.1
  refine ev_n (fr' := (7, [some (vr 135), some (vi 2)], [vl 5, vl 0, vl 2, vr 135])) (S' := MS I J cc ss) 5 rfl ?_
  refine ev_cv rfl rfl rfl ⟨Nat.le_of_ble_eq_true rfl, Nat.le_of_ble_eq_true rfl⟩ (sp_isIn X _ 2 0 5 ) ?_
  show Ev X k_X9_count (10, [some (vr 135), some (vi 2)], [vi (if 0 ≤ 2 ∧ 2 ≤ 5 then 1 else 0), vr 135]) (MS I J cc ss) _
  refine ev_beq _ rfl (by decide) (fun (g1 : ¬ (0 ≤ 2 ∧ 2 ≤ 5)) => False.elim (g1 (by omega))) (fun (g1 : 0 ≤ 2 ∧ 2 ≤ 5) => ?_)
  show Ev X k_X9_count (13, [some (vr 135), some (vi 2)], [vr 135]) (MS I J cc ss) _
  refine ev_n (fr' := (18, [some (vr 135), some (vi 2)], [vi 0, vr 135])) (S' := MS I J cc ss) 2 rfl ?_
  refine ev_n (fr' := (21, [some (vr 135), some (vi 2)], [])) (S' := MS (up2 I 135 4 0) J cc ss) 1 rfl ?_
  refine ev_n (fr' := (88, [some (vr 135), some (vi 2)], [vi 308, vr 136])) (S' := MS (up2 I 135 4 0) J cc ss) 8 rfl ?_
  refine ev_laN (j := 308) (z := (g 308)) rfl rfl (by omega) (by omega) (congrFun hg _) ?_
  show Ev X k_X9_count (89, [some (vr 135), some (vi 2)], [vl (g 308)]) (MS (up2 I 135 4 0) J cc ss) _
  refine ev_l2i rfl (by omega) (by omega) ?_
  show Ev X k_X9_count (90, [some (vr 135), some (vi 2)], [vi (g 308)]) (MS (up2 I 135 4 0) J cc ss) _
  refine ev_r rfl rfl rfl ?_
  exact ⟨_, _, rfl, rfl, rfl, scrM.refl _⟩
theorem rb_count_3 (X : AX) (I J : Nat → Nat → Int) (cc ss : Nat) {g : F1}  (hg : J 136 = g) (hws : WS g) (hwp : WP g) (hwi : WI g)  : Ev X k_X9_count (0, [some (vr 135), some (vi 3)], []) (MS I J cc ss) (PV cc ss (some (vi (sumF (fun r => g (37 * r + 12)) (g 11).toNat))) (fun I' J' => J' = J ∧ scrM (up2 I 135 4 0) I')) := by
  have q0 := hws.1
  have q1 := hws.2.1
  have q2 := hwp.1
  have q3 := hwp.2.1
  have q4 := hwi.1
  have q5 := hwi.2.1
  refine ev_n (fr' := (7, [some (vr 135), some (vi 3)], [vl 5, vl 0, vl 3, vr 135])) (S' := MS I J cc ss) 5 rfl ?_
  refine ev_cv rfl rfl rfl ⟨Nat.le_of_ble_eq_true rfl, Nat.le_of_ble_eq_true rfl⟩ (sp_isIn X _ 3 0 5 ) ?_
  show Ev X k_X9_count (10, [some (vr 135), some (vi 3)], [vi (if 0 ≤ 3 ∧ 3 ≤ 5 then 1 else 0), vr 135]) (MS I J cc ss) _
  refine ev_beq _ rfl (by decide) (fun (g1 : ¬ (0 ≤ 3 ∧ 3 ≤ 5)) => False.elim (g1 (by omega))) (fun (g1 : 0 ≤ 3 ∧ 3 ≤ 5) => ?_)
  show Ev X k_X9_count (13, [some (vr 135), some (vi 3)], [vr 135]) (MS I J cc ss) _
  refine ev_n (fr' := (18, [some (vr 135), some (vi 3)], [vi 0, vr 135])) (S' := MS I J cc ss) 2 rfl ?_
  refine ev_n (fr' := (21, [some (vr 135), some (vi 3)], [])) (S' := MS (up2 I 135 4 0) J cc ss) 1 rfl ?_
  refine ev_n (fr' := (92, [some (vr 135), some (vi 3)], [vr 135])) (S' := MS (up2 I 135 4 0) J cc ss) 6 rfl ?_
  refine ev_cv rfl rfl rfl ⟨Nat.le_of_ble_eq_true rfl, Nat.le_of_ble_eq_true rfl⟩ (sp_allShapes_r X _ _ _ _  hg hwp) ?_
  show Ev X k_X9_count (95, [some (vr 135), some (vi 3)], [vi (sumF (fun r => g (37 * r + 12)) (g 11).toNat)]) (MS (up2 I 135 4 0) J cc ss) _
  refine ev_r rfl rfl rfl ?_
  exact ⟨_, _, rfl, rfl, rfl, scrM.refl _⟩
theorem rb_count_4 (X : AX) (I J : Nat → Nat → Int) (cc ss : Nat) {g : F1}  (hg : J 136 = g) (hws : WS g) (hwp : WP g) (hwi : WI g)  : Ev X k_X9_count (0, [some (vr 135), some (vi 4)], []) (MS I J cc ss) (PV cc ss (some (vi (sumF (fun r => g (19 * r + 309)) (g 308).toNat))) (fun I' J' => J' = J ∧ scrM (up2 I 135 4 0) I')) := by
  have q0 := hws.1
  have q1 := hws.2.1
  have q2 := hwp.1
  have q3 := hwp.2.1
  have q4 := hwi.1
  have q5 := hwi.2.1
  refine ev_n (fr' := (7, [some (vr 135), some (vi 4)], [vl 5, vl 0, vl 4, vr 135])) (S' := MS I J cc ss) 5 rfl ?_
  refine ev_cv rfl rfl rfl ⟨Nat.le_of_ble_eq_true rfl, Nat.le_of_ble_eq_true rfl⟩ (sp_isIn X _ 4 0 5 ) ?_
  show Ev X k_X9_count (10, [some (vr 135), some (vi 4)], [vi (if 0 ≤ 4 ∧ 4 ≤ 5 then 1 else 0), vr 135]) (MS I J cc ss) _
  refine ev_beq _ rfl (by decide) (fun (g1 : ¬ (0 ≤ 4 ∧ 4 ≤ 5)) => False.elim (g1 (by omega))) (fun (g1 : 0 ≤ 4 ∧ 4 ≤ 5) => ?_)
  show Ev X k_X9_count (13, [some (vr 135), some (vi 4)], [vr 135]) (MS I J cc ss) _
  refine ev_n (fr' := (18, [some (vr 135), some (vi 4)], [vi 0, vr 135])) (S' := MS I J cc ss) 2 rfl ?_
  refine ev_n (fr' := (21, [some (vr 135), some (vi 4)], [])) (S' := MS (up2 I 135 4 0) J cc ss) 1 rfl ?_
  refine ev_n (fr' := (97, [some (vr 135), some (vi 4)], [vr 135])) (S' := MS (up2 I 135 4 0) J cc ss) 6 rfl ?_
  refine ev_cv rfl rfl rfl ⟨Nat.le_of_ble_eq_true rfl, Nat.le_of_ble_eq_true rfl⟩ (sp_allUses_r X _ _ _ _  hg hwi) ?_
  show Ev X k_X9_count (100, [some (vr 135), some (vi 4)], [vi (sumF (fun r => g (19 * r + 309)) (g 308).toNat)]) (MS (up2 I 135 4 0) J cc ss) _
  refine ev_r rfl rfl rfl ?_
  exact ⟨_, _, rfl, rfl, rfl, scrM.refl _⟩
theorem rb_count_5 (X : AX) (I J : Nat → Nat → Int) (cc ss : Nat) {g : F1}  (hg : J 136 = g) (hws : WS g) (hwp : WP g) (hwi : WI g)  : Ev X k_X9_count (0, [some (vr 135), some (vi 5)], []) (MS I J cc ss) (PV cc ss (some (vi (unF g))) (fun I' J' => J' = J ∧ scrM (up2 I 135 4 0) I')) := by
  have q0 := hws.1
  have q1 := hws.2.1
  have q2 := hwp.1
  have q3 := hwp.2.1
  have q4 := hwi.1
  have q5 := hwi.2.1
  refine ev_n (fr' := (7, [some (vr 135), some (vi 5)], [vl 5, vl 0, vl 5, vr 135])) (S' := MS I J cc ss) 5 rfl ?_
  refine ev_cv rfl rfl rfl ⟨Nat.le_of_ble_eq_true rfl, Nat.le_of_ble_eq_true rfl⟩ (sp_isIn X _ 5 0 5 ) ?_
  show Ev X k_X9_count (10, [some (vr 135), some (vi 5)], [vi (if 0 ≤ 5 ∧ 5 ≤ 5 then 1 else 0), vr 135]) (MS I J cc ss) _
  refine ev_beq _ rfl (by decide) (fun (g1 : ¬ (0 ≤ 5 ∧ 5 ≤ 5)) => False.elim (g1 (by omega))) (fun (g1 : 0 ≤ 5 ∧ 5 ≤ 5) => ?_)
  show Ev X k_X9_count (13, [some (vr 135), some (vi 5)], [vr 135]) (MS I J cc ss) _
  refine ev_n (fr' := (18, [some (vr 135), some (vi 5)], [vi 0, vr 135])) (S' := MS I J cc ss) 2 rfl ?_
  refine ev_n (fr' := (21, [some (vr 135), some (vi 5)], [])) (S' := MS (up2 I 135 4 0) J cc ss) 1 rfl ?_
  refine ev_n (fr' := (102, [some (vr 135), some (vi 5)], [vr 135])) (S' := MS (up2 I 135 4 0) J cc ss) 6 rfl ?_
  refine ev_cv rfl rfl rfl ⟨Nat.le_of_ble_eq_true rfl, Nat.le_of_ble_eq_true rfl⟩ (sp_unused_r X _ _ _ _  hg hwp hwi) ?_
  show Ev X k_X9_count (105, [some (vr 135), some (vi 5)], [vi (unF g)]) (MS (up2 I 135 4 0) J cc ss) _
  refine ev_r rfl rfl rfl ?_
  exact ⟨_, _, rfl, rfl, rfl, scrM.refl _⟩
theorem rb_size_x (X : AX) (I J : Nat → Nat → Int) (cc ss : Nat) {g : F1} (y z : Int) (hg : J 136 = g) (hws : WS g) (hwp : WP g) (hwi : WI g) (h : ¬ (0 ≤ y ∧ y < g 0)) : Ev X k_X9_size (0, [some (vr 135), some (vi y), some (vi z)], []) (MS I J cc ss) (fun o T => o = .inl (some (vi 0)) ∧ T = MS (up2 I 135 4 1) J cc ss) := by
  have q0 := hws.1
  have q1 := hws.2.1
  have q2 := hwp.1
  have q3 := hwp.2.1
  have q4 := hwi.1
  have q5 := hwi.2.1
  refine ev_n (fr' := (3, [some (vr 135), some (vi y), some (vi z)], [vi y, vr 135, vr 135])) (S' := MS I J cc ss) 3 rfl ?_
  refine ev_cv rfl rfl rfl ⟨Nat.le_of_ble_eq_true rfl, Nat.le_of_ble_eq_true rfl⟩ (sp_isSize_r X _ _ _ _ y hg hws) ?_
  show Ev X k_X9_size (6, [some (vr 135), some (vi y), some (vi z)], [vi (if 0 ≤ y ∧ y ≤ g 0 - 1 then 1 else 0), vr 135]) (MS I J cc ss) _
  refine ev_bne _ rfl (by decide) (fun (g1 : 0 ≤ y ∧ y ≤ g 0 - 1) => False.elim ((show ¬ (0 ≤ y ∧ y ≤ g 0 - 1) from by omega) g1)) (fun (g1 : ¬ (0 ≤ y ∧ y ≤ g 0 - 1)) => ?_)
  show Ev X k_X9_size (9, [some (vr 135), some (vi y), some (vi z)], [vr 135]) (MS I J cc ss) _
  refine ev_n (fr' := (30, [some (vr 135), some (vi y), some (vi z)], [vi 1, vr 135])) (S' := MS I J cc ss) 2 rfl ?_
  refine ev_n (fr' := (33, [some (vr 135), some (vi y), some (vi z)], [])) (S' := MS (up2 I 135 4 1) J cc ss) 1 rfl ?_
  refine ev_n (fr' := (41, [some (vr 135), some (vi y), some (vi z)], [vi 0])) (S' := MS (up2 I 135 4 1) J cc ss) 4 rfl ?_
  refine ev_r rfl rfl rfl ?_
  exact ⟨rfl, rfl⟩
theorem rb_size_y (X : AX) (I J : Nat → Nat → Int) (cc ss : Nat) {g : F1} (k : Nat) (z : Int) (hg : J 136 = g) (hws : WS g) (hwp : WP g) (hwi : WI g) (hk : (k : Int) < g 0) (h : ¬ (0 ≤ z ∧ z ≤ 2)) : Ev X k_X9_size (0, [some (vr 135), some (vi (k : Int)), some (vi z)], []) (MS I J cc ss) (fun o T => o = .inl (some (vi 0)) ∧ T = MS (up2 I 135 4 2) J cc ss) := by
  have q0 := hws.1
  have q1 := hws.2.1
  have q2 := hwp.1
  have q3 := hwp.2.1
  have q4 := hwi.1
  have q5 := hwi.2.1
  refine ev_n (fr' := (3, [some (vr 135), some (vi (k : Int)), some (vi z)], [vi (k : Int), vr 135, vr 135])) (S' := MS I J cc ss) 3 rfl ?_
  refine ev_cv rfl rfl rfl ⟨Nat.le_of_ble_eq_true rfl, Nat.le_of_ble_eq_true rfl⟩ (sp_isSize_r X _ _ _ _ (k : Int) hg hws) ?_
  show Ev X k_X9_size (6, [some (vr 135), some (vi (k : Int)), some (vi z)], [vi (if 0 ≤ (k : Int) ∧ (k : Int) ≤ g 0 - 1 then 1 else 0), vr 135]) (MS I J cc ss) _
  refine ev_bne _ rfl (by decide) (fun (g1 : 0 ≤ (k : Int) ∧ (k : Int) ≤ g 0 - 1) => ?_) (fun (g1 : ¬ (0 ≤ (k : Int) ∧ (k : Int) ≤ g 0 - 1)) => False.elim (g1 (by omega)))
  show Ev X k_X9_size (13, [some (vr 135), some (vi (k : Int)), some (vi z)], [vr 135]) (MS I J cc ss) _
  refine ev_n (fr' := (19, [some (vr 135), some (vi (k : Int)), some (vi z)], [vl 2, vl 0, vl z, vr 135])) (S' := MS I J cc ss) 4 rfl ?_
  refine ev_cv rfl rfl rfl ⟨Nat.le_of_ble_eq_true rfl, Nat.le_of_ble_eq_true rfl⟩ (sp_isIn X _ z 0 2 ) ?_
  show Ev X k_X9_size (22, [some (vr 135), some (vi (k : Int)), some (vi z)], [vi (if 0 ≤ z ∧ z ≤ 2 then 1 else 0), vr 135]) (MS I J cc ss) _
  refine ev_beq _ rfl (by decide) (fun (g2 : ¬ (0 ≤ z ∧ z ≤ 2)) => ?_) (fun (g2 : 0 ≤ z ∧ z ≤ 2) => False.elim ((show ¬ (0 ≤ z ∧ z ≤ 2) from by omega) g2))
  show Ev X k_X9_size (29, [some (vr 135), some (vi (k : Int)), some (vi z)], [vr 135]) (MS I J cc ss) _
  refine ev_n (fr' := (30, [some (vr 135), some (vi (k : Int)), some (vi z)], [vi 2, vr 135])) (S' := MS I J cc ss) 1 rfl ?_
  refine ev_n (fr' := (33, [some (vr 135), some (vi (k : Int)), some (vi z)], [])) (S' := MS (up2 I 135 4 2) J cc ss) 1 rfl ?_
  refine ev_n (fr' := (41, [some (vr 135), some (vi (k : Int)), some (vi z)], [vi 0])) (S' := MS (up2 I 135 4 2) J cc ss) 4 rfl ?_
  refine ev_r rfl rfl rfl ?_
  exact ⟨rfl, rfl⟩
theorem rb_size_0 (X : AX) (I J : Nat → Nat → Int) (cc ss : Nat) {g : F1} (k : Nat) (hg : J 136 = g) (hws : WS g) (hwp : WP g) (hwi : WI g) (hk : (k : Int) < g 0) : Ev X k_X9_size (0, [some (vr 135), some (vi (k : Int)), some (vi 0)], []) (MS I J cc ss) (PV cc ss (some (vi (g (2 * k + 1)))) (fun I' J' => J' = J ∧ scrM (up2 I 135 4 0) I')) := by
  have q0 := hws.1
  have q1 := hws.2.1
  have q2 := hwp.1
  have q3 := hwp.2.1
  have q4 := hwi.1
  have q5 := hwi.2.1
  have hr := hws.2.2.1 k hk
  refine ev_n (fr' := (3, [some (vr 135), some (vi (k : Int)), some (vi 0)], [vi (k : Int), vr 135, vr 135])) (S' := MS I J cc ss) 3 rfl ?_
  refine ev_cv rfl rfl rfl ⟨Nat.le_of_ble_eq_true rfl, Nat.le_of_ble_eq_true rfl⟩ (sp_isSize_r X _ _ _ _ (k : Int) hg hws) ?_
  show Ev X k_X9_size (6, [some (vr 135), some (vi (k : Int)), some (vi 0)], [vi (if 0 ≤ (k : Int) ∧ (k : Int) ≤ g 0 - 1 then 1 else 0), vr 135]) (MS I J cc ss) _
  refine ev_bne _ rfl (by decide) (fun (g1 : 0 ≤ (k : Int) ∧ (k : Int) ≤ g 0 - 1) => ?_) (fun (g1 : ¬ (0 ≤ (k : Int) ∧ (k : Int) ≤ g 0 - 1)) => False.elim (g1 (by omega)))
  show Ev X k_X9_size (13, [some (vr 135), some (vi (k : Int)), some (vi 0)], [vr 135]) (MS I J cc ss) _
  refine ev_n (fr' := (19, [some (vr 135), some (vi (k : Int)), some (vi 0)], [vl 2, vl 0, vl 0, vr 135])) (S' := MS I J cc ss) 4 rfl ?_
  refine ev_cv rfl rfl rfl ⟨Nat.le_of_ble_eq_true rfl, Nat.le_of_ble_eq_true rfl⟩ (sp_isIn X _ 0 0 2 ) ?_
  show Ev X k_X9_size (22, [some (vr 135), some (vi (k : Int)), some (vi 0)], [vi (if 0 ≤ 0 ∧ 0 ≤ 2 then 1 else 0), vr 135]) (MS I J cc ss) _
  refine ev_beq _ rfl (by decide) (fun (g2 : ¬ (0 ≤ 0 ∧ 0 ≤ 2)) => False.elim (g2 (by omega))) (fun (g2 : 0 ≤ 0 ∧ 0 ≤ 2) => ?_)
  show Ev X k_X9_size (25, [some (vr 135), some (vi (k : Int)), some (vi 0)], [vr 135]) (MS I J cc ss) _
  refine ev_n (fr' := (30, [some (vr 135), some (vi (k : Int)), some (vi 0)], [vi 0, vr 135])) (S' := MS I J cc ss) 2 rfl ?_
  refine ev_n (fr' := (33, [some (vr 135), some (vi (k : Int)), some (vi 0)], [])) (S' := MS (up2 I 135 4 0) J cc ss) 1 rfl ?_
  refine ev_n (fr' := (88, [some (vr 135), some (vi (k : Int)), some (vi 0)], [vi (k : Int), vi 2, vi 1, vr 136])) (S' := MS (up2 I 135 4 0) J cc ss) 11 rfl ?_
  refine ev_mul (z := 2 * (k : Int)) rfl (by omega) (by omega) (by omega) ?_
  show Ev X k_X9_size (89, [some (vr 135), some (vi (k : Int)), some (vi 0)], [vi (2 * (k : Int)), vi 1, vr 136]) (MS (up2 I 135 4 0) J cc ss) _
  refine ev_add (z := 2 * (k : Int) + 1) rfl (by omega) (by omega) (by omega) ?_
  show Ev X k_X9_size (90, [some (vr 135), some (vi (k : Int)), some (vi 0)], [vi (2 * (k : Int) + 1), vr 136]) (MS (up2 I 135 4 0) J cc ss) _
  refine ev_n (fr' := (91, [some (vr 135), some (vi (k : Int)), some (vi 0)], [vi 0, vi (2 * (k : Int) + 1), vr 136])) (S' := MS (up2 I 135 4 0) J cc ss) 1 rfl ?_
  refine ev_add (z := 2 * (k : Int) + 1) rfl (by omega) (by omega) (by omega) ?_
  show Ev X k_X9_size (92, [some (vr 135), some (vi (k : Int)), some (vi 0)], [vi (2 * (k : Int) + 1), vr 136]) (MS (up2 I 135 4 0) J cc ss) _
  refine ev_laN (j := 2 * k + 1) (z := (g (2 * k + 1))) rfl rfl (by omega) (by omega) (congrFun hg _) ?_
  show Ev X k_X9_size (93, [some (vr 135), some (vi (k : Int)), some (vi 0)], [vl (g (2 * k + 1))]) (MS (up2 I 135 4 0) J cc ss) _
  refine ev_l2i rfl (by omega) (by omega) ?_
  show Ev X k_X9_size (94, [some (vr 135), some (vi (k : Int)), some (vi 0)], [vi (g (2 * k + 1))]) (MS (up2 I 135 4 0) J cc ss) _
  refine ev_r rfl rfl rfl ?_
  exact ⟨_, _, rfl, rfl, rfl, scrM.refl _⟩
theorem rb_size_1 (X : AX) (I J : Nat → Nat → Int) (cc ss : Nat) {g : F1} (k : Nat) (hg : J 136 = g) (hws : WS g) (hwp : WP g) (hwi : WI g) (hk : (k : Int) < g 0) : Ev X k_X9_size (0, [some (vr 135), some (vi (k : Int)), some (vi 1)], []) (MS I J cc ss) (PV cc ss (some (vi (g (2 * k + 2)))) (fun I' J' => J' = J ∧ scrM (up2 I 135 4 0) I')) := by
  have q0 := hws.1
  have q1 := hws.2.1
  have q2 := hwp.1
  have q3 := hwp.2.1
  have q4 := hwi.1
  have q5 := hwi.2.1
  have hr := hws.2.2.1 k hk
  refine ev_n (fr' := (3, [some (vr 135), some (vi (k : Int)), some (vi 1)], [vi (k : Int), vr 135, vr 135])) (S' := MS I J cc ss) 3 rfl ?_
  refine ev_cv rfl rfl rfl ⟨Nat.le_of_ble_eq_true rfl, Nat.le_of_ble_eq_true rfl⟩ (sp_isSize_r X _ _ _ _ (k : Int) hg hws) ?_
  show Ev X k_X9_size (6, [some (vr 135), some (vi (k : Int)), some (vi 1)], [vi (if 0 ≤ (k : Int) ∧ (k : Int) ≤ g 0 - 1 then 1 else 0), vr 135]) (MS I J cc ss) _
  refine ev_bne _ rfl (by decide) (fun (g1 : 0 ≤ (k : Int) ∧ (k : Int) ≤ g 0 - 1) => ?_) (fun (g1 : ¬ (0 ≤ (k : Int) ∧ (k : Int) ≤ g 0 - 1)) => False.elim (g1 (by omega)))
  show Ev X k_X9_size (13, [some (vr 135), some (vi (k : Int)), some (vi 1)], [vr 135]) (MS I J cc ss) _
  refine ev_n (fr' := (19, [some (vr 135), some (vi (k : Int)), some (vi 1)], [vl 2, vl 0, vl 1, vr 135])) (S' := MS I J cc ss) 4 rfl ?_
  refine ev_cv rfl rfl rfl ⟨Nat.le_of_ble_eq_true rfl, Nat.le_of_ble_eq_true rfl⟩ (sp_isIn X _ 1 0 2 ) ?_
  show Ev X k_X9_size (22, [some (vr 135), some (vi (k : Int)), some (vi 1)], [vi (if 0 ≤ 1 ∧ 1 ≤ 2 then 1 else 0), vr 135]) (MS I J cc ss) _
  refine ev_beq _ rfl (by decide) (fun (g2 : ¬ (0 ≤ 1 ∧ 1 ≤ 2)) => False.elim (g2 (by omega))) (fun (g2 : 0 ≤ 1 ∧ 1 ≤ 2) => ?_)
  show Ev X k_X9_size (25, [some (vr 135), some (vi (k : Int)), some (vi 1)], [vr 135]) (MS I J cc ss) _
  refine ev_n (fr' := (30, [some (vr 135), some (vi (k : Int)), some (vi 1)], [vi 0, vr 135])) (S' := MS I J cc ss) 2 rfl ?_
  refine ev_n (fr' := (33, [some (vr 135), some (vi (k : Int)), some (vi 1)], [])) (S' := MS (up2 I 135 4 0) J cc ss) 1 rfl ?_
  refine ev_n (fr' := (88, [some (vr 135), some (vi (k : Int)), some (vi 1)], [vi (k : Int), vi 2, vi 1, vr 136])) (S' := MS (up2 I 135 4 0) J cc ss) 11 rfl ?_
  refine ev_mul (z := 2 * (k : Int)) rfl (by omega) (by omega) (by omega) ?_
  show Ev X k_X9_size (89, [some (vr 135), some (vi (k : Int)), some (vi 1)], [vi (2 * (k : Int)), vi 1, vr 136]) (MS (up2 I 135 4 0) J cc ss) _
  refine ev_add (z := 2 * (k : Int) + 1) rfl (by omega) (by omega) (by omega) ?_
  show Ev X k_X9_size (90, [some (vr 135), some (vi (k : Int)), some (vi 1)], [vi (2 * (k : Int) + 1), vr 136]) (MS (up2 I 135 4 0) J cc ss) _
  refine ev_n (fr' := (91, [some (vr 135), some (vi (k : Int)), some (vi 1)], [vi 1, vi (2 * (k : Int) + 1), vr 136])) (S' := MS (up2 I 135 4 0) J cc ss) 1 rfl ?_
  refine ev_add (z := 2 * (k : Int) + 2) rfl (by omega) (by omega) (by omega) ?_
  show Ev X k_X9_size (92, [some (vr 135), some (vi (k : Int)), some (vi 1)], [vi (2 * (k : Int) + 2), vr 136]) (MS (up2 I 135 4 0) J cc ss) _
  refine ev_laN (j := 2 * k + 2) (z := (g (2 * k + 2))) rfl rfl (by omega) (by omega) (congrFun hg _) ?_
  show Ev X k_X9_size (93, [some (vr 135), some (vi (k : Int)), some (vi 1)], [vl (g (2 * k + 2))]) (MS (up2 I 135 4 0) J cc ss) _
  refine ev_l2i rfl (by omega) (by omega) ?_
  show Ev X k_X9_size (94, [some (vr 135), some (vi (k : Int)), some (vi 1)], [vi (g (2 * k + 2))]) (MS (up2 I 135 4 0) J cc ss) _
  refine ev_r rfl rfl rfl ?_
  exact ⟨_, _, rfl, rfl, rfl, scrM.refl _⟩
theorem rb_size_2 (X : AX) (I J : Nat → Nat → Int) (cc ss : Nat) {g : F1} (k : Nat) (hg : J 136 = g) (hws : WS g) (hwp : WP g) (hwi : WI g) (hk : (k : Int) < g 0) : Ev X k_X9_size (0, [some (vr 135), some (vi (k : Int)), some (vi 2)], []) (MS I J cc ss) (PV cc ss (some (vi (mwF g (g (2 * k + 1)) (g (2 * k + 2))))) (fun I' J' => J' = J ∧ scrM (up2 I 135 4 0) I')) := by
  have q0 := hws.1
  have q1 := hws.2.1
  have q2 := hwp.1
  have q3 := hwp.2.1
  have q4 := hwi.1
  have q5 := hwi.2.1
  have hr := hws.2.2.1 k hk
  refine ev_n (fr' := (3, [some (vr 135), some (vi (k : Int)), some (vi 2)], [vi (k : Int), vr 135, vr 135])) (S' := MS I J cc ss) 3 rfl ?_
  refine ev_cv rfl rfl rfl ⟨Nat.le_of_ble_eq_true rfl, Nat.le_of_ble_eq_true rfl⟩ (sp_isSize_r X _ _ _ _ (k : Int) hg hws) ?_
  show Ev X k_X9_size (6, [some (vr 135), some (vi (k : Int)), some (vi 2)], [vi (if 0 ≤ (k : Int) ∧ (k : Int) ≤ g 0 - 1 then 1 else 0), vr 135]) (MS I J cc ss) _
  refine ev_bne _ rfl (by decide) (fun (g1 : 0 ≤ (k : Int) ∧ (k : Int) ≤ g 0 - 1) => ?_) (fun (g1 : ¬ (0 ≤ (k : Int) ∧ (k : Int) ≤ g 0 - 1)) => False.elim (g1 (by omega)))
  show Ev X k_X9_size (13, [some (vr 135), some (vi (k : Int)), some (vi 2)], [vr 135]) (MS I J cc ss) _
  refine ev_n (fr' := (19, [some (vr 135), some (vi (k : Int)), some (vi 2)], [vl 2, vl 0, vl 2, vr 135])) (S' := MS I J cc ss) 4 rfl ?_
  refine ev_cv rfl rfl rfl ⟨Nat.le_of_ble_eq_true rfl, Nat.le_of_ble_eq_true rfl⟩ (sp_isIn X _ 2 0 2 ) ?_
  show Ev X k_X9_size (22, [some (vr 135), some (vi (k : Int)), some (vi 2)], [vi (if 0 ≤ 2 ∧ 2 ≤ 2 then 1 else 0), vr 135]) (MS I J cc ss) _
  refine ev_beq _ rfl (by decide) (fun (g2 : ¬ (0 ≤ 2 ∧ 2 ≤ 2)) => False.elim (g2 (by omega))) (fun (g2 : 0 ≤ 2 ∧ 2 ≤ 2) => ?_)
  show Ev X k_X9_size (25, [some (vr 135), some (vi (k : Int)), some (vi 2)], [vr 135]) (MS I J cc ss) _
  refine ev_n (fr' := (30, [some (vr 135), some (vi (k : Int)), some (vi 2)], [vi 0, vr 135])) (S' := MS I J cc ss) 2 rfl ?_
  refine ev_n (fr' := (33, [some (vr 135), some (vi (k : Int)), some (vi 2)], [])) (S' := MS (up2 I 135 4 0) J cc ss) 1 rfl ?_
  refine ev_n (fr' := (54, [some (vr 135), some (vi (k : Int)), some (vi 2)], [vi 308, vr 136])) (S' := MS (up2 I 135 4 0) J cc ss) 9 rfl ?_
  refine ev_laN (j := 308) (z := (g 308)) rfl rfl (by omega) (by omega) (congrFun hg _) ?_
  show Ev X k_X9_size (55, [some (vr 135), some (vi (k : Int)), some (vi 2)], [vl (g 308)]) (MS (up2 I 135 4 0) J cc ss) _
  refine ev_n (fr' := (56, [some (vr 135), some (vi (k : Int)), some (vi 2)], [vl 0, vl (g 308)])) (S' := MS (up2 I 135 4 0) J cc ss) 1 rfl ?_
  refine ev_lc (c := .ne) (off := 7) rfl rfl (by decide) (fun (g3 : (g 308) ≠ 0) => ?_) (fun (g3 : ¬ ((g 308) ≠ 0)) => ?_)
  · show Ev X k_X9_size (64, [some (vr 135), some (vi (k : Int)), some (vi 2)], []) (MS (up2 I 135 4 0) J cc ss) _
    refine ev_n (fr' := (67, [some (vr 135), some (vi (k : Int)), some (vi 2)], [vi (k : Int), vr 135, vr 135])) (S' := MS (up2 I 135 4 0) J cc ss) 3 rfl ?_
    refine ev_cv rfl rfl rfl ⟨Nat.le_of_ble_eq_true rfl, Nat.le_of_ble_eq_true rfl⟩ (sp_pixelsOf_r X _ _ _ _ k hg hws (by omega)) ?_
    show Ev X k_X9_size (70, [some (vr 135), some (vi (k : Int)), some (vi 2)], [vi (g (2 * k + 1)), vr 135]) (MS (up2 I 135 4 0) J cc ss) _
    refine ev_n (fr' := (72, [some (vr 135), some (vi (k : Int)), some (vi 2)], [vi (k : Int), vr 135, vi (g (2 * k + 1)), vr 135])) (S' := MS (up2 I 135 4 0) J cc ss) 2 rfl ?_
    refine ev_cv rfl rfl rfl ⟨Nat.le_of_ble_eq_true rfl, Nat.le_of_ble_eq_true rfl⟩ (sp_extraOf_r X _ _ _ _ k hg hws (by omega)) ?_
    show Ev X k_X9_size (75, [some (vr 135), some (vi (k : Int)), some (vi 2)], [vi (g (2 * k + 2)), vi (g (2 * k + 1)), vr 135]) (MS (up2 I 135 4 0) J cc ss) _
    refine ev_cz rfl rfl rfl ⟨Nat.le_of_ble_eq_true rfl, Nat.le_of_ble_eq_true rfl⟩ (sp_rmeanWeight X _ _ _ _ (g (2 * k + 1)) (g (2 * k + 2)) hg hwp hwi (by omega) (by omega) (by omega)) (fun z9 I1 J q2 => ?_)
    obtain ⟨rfl, rF, hz9⟩ := q2
    show Ev X k_X9_size (78, [some (vr 135), some (vi (k : Int)), some (vi 2)], [vi z9]) (MS I1 J cc ss) _
    refine ev_n (fr' := (94, [some (vr 135), some (vi (k : Int)), some (vi 2)], [vi z9])) (S' := MS I1 J cc ss) 1 rfl ?_
    refine ev_r rfl rfl rfl ?_
    exact ⟨_, _, rfl, congrArg (fun z => Sum.inl (some (vi z))) hz9, rfl, rF⟩
  · show Ev X k_X9_size (60, [some (vr 135), some (vi (k : Int)), some (vi 2)], []) (MS (up2 I 135 4 0) J cc ss) _
    refine ev_n (fr' := (94, [some (vr 135), some (vi (k : Int)), some (vi 2)], [vi 0])) (S' := MS (up2 I 135 4 0) J cc ss) 2 rfl ?_
    refine ev_r rfl rfl rfl ?_
    exact ⟨_, _, rfl, congrArg (fun z => Sum.inl (some (vi z))) (by unfold mwF; rw [if_pos (by omega)]), rfl, scrM.refl _⟩
theorem rb_stroke_x (X : AX) (I J : Nat → Nat → Int) (cc ss : Nat) {g : F1} (y z : Int) (hg : J 136 = g) (hws : WS g) (hwp : WP g) (hwi : WI g) (h : ¬ (0 ≤ y ∧ y < g 0)) : Ev X k_X9_stroke (0, [some (vr 135), some (vi y), some (vi z)], []) (MS I J cc ss) (fun o T => o = .inl (some (vi 0)) ∧ T = MS (up2 I 135 4 1) J cc ss) := by
  have q0 := hws.1
  have q1 := hws.2.1
  have q2 := hwp.1
  have q3 := hwp.2.1
  have q4 := hwi.1
  have q5 := hwi.2.1
  refine ev_n (fr' := (3, [some (vr 135), some (vi y), some (vi z)], [vi y, vr 135, vr 135])) (S' := MS I J cc ss) 3 rfl ?_
  refine ev_cv rfl rfl rfl ⟨Nat.le_of_ble_eq_true rfl, Nat.le_of_ble_eq_true rfl⟩ (sp_isSize_r X _ _ _ _ y hg hws) ?_
  show Ev X k_X9_stroke (6, [some (vr 135), some (vi y), some (vi z)], [vi (if 0 ≤ y ∧ y ≤ g 0 - 1 then 1 else 0), vr 135]) (MS I J cc ss) _
  refine ev_bne _ rfl (by decide) (fun (g1 : 0 ≤ y ∧ y ≤ g 0 - 1) => False.elim ((show ¬ (0 ≤ y ∧ y ≤ g 0 - 1) from by omega) g1)) (fun (g1 : ¬ (0 ≤ y ∧ y ≤ g 0 - 1)) => ?_)
  show Ev X k_X9_stroke (9, [some (vr 135), some (vi y), some (vi z)], [vr 135]) (MS I J cc ss) _
  refine ev_n (fr' := (30, [some (vr 135), some (vi y), some (vi z)], [vi 1, vr 135])) (S' := MS I J cc ss) 2 rfl ?_
  refine ev_n (fr' := (33, [some (vr 135), some (vi y), some (vi z)], [])) (S' := MS (up2 I 135 4 1) J cc ss) 1 rfl ?_
  refine ev_n (fr' := (58, [some (vr 135), some (vi y), some (vi z)], [vi 0])) (S' := MS (up2 I 135 4 1) J cc ss) 5 rfl ?_
  refine ev_r rfl rfl rfl ?_
  exact ⟨rfl, rfl⟩
theorem rb_stroke_y (X : AX) (I J : Nat → Nat → Int) (cc ss : Nat) {g : F1} (k : Nat) (z : Int) (hg : J 136 = g) (hws : WS g) (hwp : WP g) (hwi : WI g) (hk : (k : Int) < g 0) (h : ¬ (1 ≤ z ∧ z ≤ 12)) : Ev X k_X9_stroke (0, [some (vr 135), some (vi (k : Int)), some (vi z)], []) (MS I J cc ss) (fun o T => o = .inl (some (vi 0)) ∧ T = MS (up2 I 135 4 2) J cc ss) := by
  have q0 := hws.1
  have q1 := hws.2.1
  have q2 := hwp.1
  have q3 := hwp.2.1
  have q4 := hwi.1
  have q5 := hwi.2.1
  refine ev_n (fr' := (3, [some (vr 135), some (vi (k : Int)), some (vi z)], [vi (k : Int), vr 135, vr 135])) (S' := MS I J cc ss) 3 rfl ?_
  refine ev_cv rfl rfl rfl ⟨Nat.le_of_ble_eq_true rfl, Nat.le_of_ble_eq_true rfl⟩ (sp_isSize_r X _ _ _ _ (k : Int) hg hws) ?_
  show Ev X k_X9_stroke (6, [some (vr 135), some (vi (k : Int)), some (vi z)], [vi (if 0 ≤ (k : Int) ∧ (k : Int) ≤ g 0 - 1 then 1 else 0), vr 135]) (MS I J cc ss) _
  refine ev_bne _ rfl (by decide) (fun (g1 : 0 ≤ (k : Int) ∧ (k : Int) ≤ g 0 - 1) => ?_) (fun (g1 : ¬ (0 ≤ (k : Int) ∧ (k : Int) ≤ g 0 - 1)) => False.elim (g1 (by omega)))
  show Ev X k_X9_stroke (13, [some (vr 135), some (vi (k : Int)), some (vi z)], [vr 135]) (MS I J cc ss) _
  refine ev_n (fr' := (19, [some (vr 135), some (vi (k : Int)), some (vi z)], [vl 12, vl 1, vl z, vr 135])) (S' := MS I J cc ss) 4 rfl ?_
  refine ev_cv rfl rfl rfl ⟨Nat.le_of_ble_eq_true rfl, Nat.le_of_ble_eq_true rfl⟩ (sp_isIn X _ z 1 12 ) ?_
  show Ev X k_X9_stroke (22, [some (vr 135), some (vi (k : Int)), some (vi z)], [vi (if 1 ≤ z ∧ z ≤ 12 then 1 else 0), vr 135]) (MS I J cc ss) _
  refine ev_beq _ rfl (by decide) (fun (g2 : ¬ (1 ≤ z ∧ z ≤ 12)) => ?_) (fun (g2 : 1 ≤ z ∧ z ≤ 12) => False.elim ((show ¬ (1 ≤ z ∧ z ≤ 12) from by omega) g2))
  show Ev X k_X9_stroke (29, [some (vr 135), some (vi (k : Int)), some (vi z)], [vr 135]) (MS I J cc ss) _
  refine ev_n (fr' := (30, [some (vr 135), some (vi (k : Int)), some (vi z)], [vi 2, vr 135])) (S' := MS I J cc ss) 1 rfl ?_
  refine ev_n (fr' := (33, [some (vr 135), some (vi (k : Int)), some (vi z)], [])) (S' := MS (up2 I 135 4 2) J cc ss) 1 rfl ?_
  refine ev_n (fr' := (58, [some (vr 135), some (vi (k : Int)), some (vi z)], [vi 0])) (S' := MS (up2 I 135 4 2) J cc ss) 5 rfl ?_
  refine ev_r rfl rfl rfl ?_
  exact ⟨rfl, rfl⟩
theorem rb_stroke (X : AX) (I J : Nat → Nat → Int) (cc ss : Nat) {g : F1} (k : Nat) (z : Int) (hg : J 136 = g) (hws : WS g) (hwp : WP g) (hwi : WI g) (hk : (k : Int) < g 0) (h : 1 ≤ z ∧ z ≤ 12) : Ev X k_X9_stroke (0, [some (vr 135), some (vi (k : Int)), some (vi z)], []) (MS I J cc ss) (PV cc ss (some (vi (strokeF z (g (2 * k + 1)) (g (2 * k + 2))))) (fun I' J' => J' = J ∧ scrM (up2 I 135 4 0) I')) := by
  have q0 := hws.1
  have q1 := hws.2.1
  have q2 := hwp.1
  have q3 := hwp.2.1
  have q4 := hwi.1
  have q5 := hwi.2.1
  have hr := hws.2.2.1 k hk
  refine ev_n (fr' := (3, [some (vr 135), some (vi (k : Int)), some (vi z)], [vi (k : Int), vr 135, vr 135])) (S' := MS I J cc ss) 3 rfl ?_
  refine ev_cv rfl rfl rfl ⟨Nat.le_of_ble_eq_true rfl, Nat.le_of_ble_eq_true rfl⟩ (sp_isSize_r X _ _ _ _ (k : Int) hg hws) ?_
  show Ev X k_X9_stroke (6, [some (vr 135), some (vi (k : Int)), some (vi z)], [vi (if 0 ≤ (k : Int) ∧ (k : Int) ≤ g 0 - 1 then 1 else 0), vr 135]) (MS I J cc ss) _
  refine ev_bne _ rfl (by decide) (fun (g1 : 0 ≤ (k : Int) ∧ (k : Int) ≤ g 0 - 1) => ?_) (fun (g1 : ¬ (0 ≤ (k : Int) ∧ (k : Int) ≤ g 0 - 1)) => False.elim (g1 (by omega)))
  show Ev X k_X9_stroke (13, [some (vr 135), some (vi (k : Int)), some (vi z)], [vr 135]) (MS I J cc ss) _
  refine ev_n (fr' := (19, [some (vr 135), some (vi (k : Int)), some (vi z)], [vl 12, vl 1, vl z, vr 135])) (S' := MS I J cc ss) 4 rfl ?_
  refine ev_cv rfl rfl rfl ⟨Nat.le_of_ble_eq_true rfl, Nat.le_of_ble_eq_true rfl⟩ (sp_isIn X _ z 1 12 ) ?_
  show Ev X k_X9_stroke (22, [some (vr 135), some (vi (k : Int)), some (vi z)], [vi (if 1 ≤ z ∧ z ≤ 12 then 1 else 0), vr 135]) (MS I J cc ss) _
  refine ev_beq _ rfl (by decide) (fun (g2 : ¬ (1 ≤ z ∧ z ≤ 12)) => False.elim (g2 (by omega))) (fun (g2 : 1 ≤ z ∧ z ≤ 12) => ?_)
  show Ev X k_X9_stroke (25, [some (vr 135), some (vi (k : Int)), some (vi z)], [vr 135]) (MS I J cc ss) _
  refine ev_n (fr' := (30, [some (vr 135), some (vi (k : Int)), some (vi z)], [vi 0, vr 135])) (S' := MS I J cc ss) 2 rfl ?_
  refine ev_n (fr' := (33, [some (vr 135), some (vi (k : Int)), some (vi z)], [])) (S' := MS (up2 I 135 4 0) J cc ss) 1 rfl ?_
  refine ev_n (fr' := (47, [some (vr 135), some (vi (k : Int)), some (vi z)], [vi (k : Int), vr 135, vi z])) (S' := MS (up2 I 135 4 0) J cc ss) 6 rfl ?_
  refine ev_cv rfl rfl rfl ⟨Nat.le_of_ble_eq_true rfl, Nat.le_of_ble_eq_true rfl⟩ (sp_pixelsOf_r X _ _ _ _ k hg hws (by omega)) ?_
  show Ev X k_X9_stroke (50, [some (vr 135), some (vi (k : Int)), some (vi z)], [vi (g (2 * k + 1)), vi z]) (MS (up2 I 135 4 0) J cc ss) _
  refine ev_n (fr' := (52, [some (vr 135), some (vi (k : Int)), some (vi z)], [vi (k : Int), vr 135, vi (g (2 * k + 1)), vi z])) (S' := MS (up2 I 135 4 0) J cc ss) 2 rfl ?_
  refine ev_cv rfl rfl rfl ⟨Nat.le_of_ble_eq_true rfl, Nat.le_of_ble_eq_true rfl⟩ (sp_extraOf_r X _ _ _ _ k hg hws (by omega)) ?_
  show Ev X k_X9_stroke (55, [some (vr 135), some (vi (k : Int)), some (vi z)], [vi (g (2 * k + 2)), vi (g (2 * k + 1)), vi z]) (MS (up2 I 135 4 0) J cc ss) _
  refine ev_cv rfl rfl rfl ⟨Nat.le_of_ble_eq_true rfl, Nat.le_of_ble_eq_true rfl⟩ (sp_r_strokeOf X _ z (g (2 * k + 1)) (g (2 * k + 2)) (by omega) (by omega) (by omega)) ?_
  show Ev X k_X9_stroke (58, [some (vr 135), some (vi (k : Int)), some (vi z)], [vi (strokeF z (g (2 * k + 1)) (g (2 * k + 2)))]) (MS (up2 I 135 4 0) J cc ss) _
  have := strokeF_rng (t := z) (P := (g (2 * k + 1))) (e := (g (2 * k + 2))) (by omega) (by omega) (by omega) (by omega) (by omega) (by omega)
  refine ev_r rfl rfl rfl ?_
  exact ⟨_, _, rfl, rfl, rfl, scrM.refl _⟩
theorem rb_part_x (X : AX) (I J : Nat → Nat → Int) (cc ss : Nat) {g : F1} (y z : Int) (hg : J 136 = g) (hws : WS g) (hwp : WP g) (hwi : WI g) (h : ¬ (0 ≤ y ∧ y < g 11)) : Ev X k_X9_part (0, [some (vr 135), some (vi y), some (vi z)], []) (MS I J cc ss) (fun o T => o = .inl (some (vi 0)) ∧ T = MS (up2 I 135 4 1) J cc ss) := by
  have q0 := hws.1
  have q1 := hws.2.1
  have q2 := hwp.1
  have q3 := hwp.2.1
  have q4 := hwi.1
  have q5 := hwi.2.1
  refine ev_n (fr' := (3, [some (vr 135), some (vi y), some (vi z)], [vi y, vr 135, vr 135])) (S' := MS I J cc ss) 3 rfl ?_
  refine ev_cv rfl rfl rfl ⟨Nat.le_of_ble_eq_true rfl, Nat.le_of_ble_eq_true rfl⟩ (sp_isPart_r X _ _ _ _ y hg hwp) ?_
  show Ev X k_X9_part (6, [some (vr 135), some (vi y), some (vi z)], [vi (if 0 ≤ y ∧ y ≤ g 11 - 1 then 1 else 0), vr 135]) (MS I J cc ss) _
  refine ev_bne _ rfl (by decide) (fun (g1 : 0 ≤ y ∧ y ≤ g 11 - 1) => False.elim ((show ¬ (0 ≤ y ∧ y ≤ g 11 - 1) from by omega) g1)) (fun (g1 : ¬ (0 ≤ y ∧ y ≤ g 11 - 1)) => ?_)
  show Ev X k_X9_part (9, [some (vr 135), some (vi y), some (vi z)], [vr 135]) (MS I J cc ss) _
  refine ev_n (fr' := (30, [some (vr 135), some (vi y), some (vi z)], [vi 1, vr 135])) (S' := MS I J cc ss) 2 rfl ?_
  refine ev_n (fr' := (33, [some (vr 135), some (vi y), some (vi z)], [])) (S' := MS (up2 I 135 4 1) J cc ss) 1 rfl ?_
  refine ev_n (fr' := (41, [some (vr 135), some (vi y), some (vi z)], [vi 0])) (S' := MS (up2 I 135 4 1) J cc ss) 4 rfl ?_
  refine ev_r rfl rfl rfl ?_
  exact ⟨rfl, rfl⟩
theorem rb_part_y (X : AX) (I J : Nat → Nat → Int) (cc ss : Nat) {g : F1} (k : Nat) (z : Int) (hg : J 136 = g) (hws : WS g) (hwp : WP g) (hwi : WI g) (hk : (k : Int) < g 11) (h : ¬ (0 ≤ z ∧ z ≤ 2)) : Ev X k_X9_part (0, [some (vr 135), some (vi (k : Int)), some (vi z)], []) (MS I J cc ss) (fun o T => o = .inl (some (vi 0)) ∧ T = MS (up2 I 135 4 2) J cc ss) := by
  have q0 := hws.1
  have q1 := hws.2.1
  have q2 := hwp.1
  have q3 := hwp.2.1
  have q4 := hwi.1
  have q5 := hwi.2.1
  refine ev_n (fr' := (3, [some (vr 135), some (vi (k : Int)), some (vi z)], [vi (k : Int), vr 135, vr 135])) (S' := MS I J cc ss) 3 rfl ?_
  refine ev_cv rfl rfl rfl ⟨Nat.le_of_ble_eq_true rfl, Nat.le_of_ble_eq_true rfl⟩ (sp_isPart_r X _ _ _ _ (k : Int) hg hwp) ?_
  show Ev X k_X9_part (6, [some (vr 135), some (vi (k : Int)), some (vi z)], [vi (if 0 ≤ (k : Int) ∧ (k : Int) ≤ g 11 - 1 then 1 else 0), vr 135]) (MS I J cc ss) _
  refine ev_bne _ rfl (by decide) (fun (g1 : 0 ≤ (k : Int) ∧ (k : Int) ≤ g 11 - 1) => ?_) (fun (g1 : ¬ (0 ≤ (k : Int) ∧ (k : Int) ≤ g 11 - 1)) => False.elim (g1 (by omega)))
  show Ev X k_X9_part (13, [some (vr 135), some (vi (k : Int)), some (vi z)], [vr 135]) (MS I J cc ss) _
  refine ev_n (fr' := (19, [some (vr 135), some (vi (k : Int)), some (vi z)], [vl 2, vl 0, vl z, vr 135])) (S' := MS I J cc ss) 4 rfl ?_
  refine ev_cv rfl rfl rfl ⟨Nat.le_of_ble_eq_true rfl, Nat.le_of_ble_eq_true rfl⟩ (sp_isIn X _ z 0 2 ) ?_
  show Ev X k_X9_part (22, [some (vr 135), some (vi (k : Int)), some (vi z)], [vi (if 0 ≤ z ∧ z ≤ 2 then 1 else 0), vr 135]) (MS I J cc ss) _
  refine ev_beq _ rfl (by decide) (fun (g2 : ¬ (0 ≤ z ∧ z ≤ 2)) => ?_) (fun (g2 : 0 ≤ z ∧ z ≤ 2) => False.elim ((show ¬ (0 ≤ z ∧ z ≤ 2) from by omega) g2))
  show Ev X k_X9_part (29, [some (vr 135), some (vi (k : Int)), some (vi z)], [vr 135]) (MS I J cc ss) _
  refine ev_n (fr' := (30, [some (vr 135), some (vi (k : Int)), some (vi z)], [vi 2, vr 135])) (S' := MS I J cc ss) 1 rfl ?_
  refine ev_n (fr' := (33, [some (vr 135), some (vi (k : Int)), some (vi z)], [])) (S' := MS (up2 I 135 4 2) J cc ss) 1 rfl ?_
  refine ev_n (fr' := (41, [some (vr 135), some (vi (k : Int)), some (vi z)], [vi 0])) (S' := MS (up2 I 135 4 2) J cc ss) 4 rfl ?_
  refine ev_r rfl rfl rfl ?_
  exact ⟨rfl, rfl⟩
theorem rb_part_0 (X : AX) (I J : Nat → Nat → Int) (cc ss : Nat) {g : F1} (k : Nat) (hg : J 136 = g) (hws : WS g) (hwp : WP g) (hwi : WI g) (hk : (k : Int) < g 11) : Ev X k_X9_part (0, [some (vr 135), some (vi (k : Int)), some (vi 0)], []) (MS I J cc ss) (PV cc ss (some (vi (g (37 * k + 12)))) (fun I' J' => J' = J ∧ scrM (up2 I 135 4 0) I')) := by
  have q0 := hws.1
  have q1 := hws.2.1
  have q2 := hwp.1
  have q3 := hwp.2.1
  have q4 := hwi.1
  have q5 := hwi.2.1
  have hr := (hwp.2.2 k hk).2.1
  have hr1 := (hwp.2.2 k hk).1
  refine ev_n (fr' := (3, [some (vr 135), some (vi (k : Int)), some (vi 0)], [vi (k : Int), vr 135, vr 135])) (S' := MS I J cc ss) 3 rfl ?_
  refine ev_cv rfl rfl rfl ⟨Nat.le_of_ble_eq_true rfl, Nat.le_of_ble_eq_true rfl⟩ (sp_isPart_r X _ _ _ _ (k : Int) hg hwp) ?_
  show Ev X k_X9_part (6, [some (vr 135), some (vi (k : Int)), some (vi 0)], [vi (if 0 ≤ (k : Int) ∧ (k : Int) ≤ g 11 - 1 then 1 else 0), vr 135]) (MS I J cc ss) _
  refine ev_bne _ rfl (by decide) (fun (g1 : 0 ≤ (k : Int) ∧ (k : Int) ≤ g 11 - 1) => ?_) (fun (g1 : ¬ (0 ≤ (k : Int) ∧ (k : Int) ≤ g 11 - 1)) => False.elim (g1 (by omega)))
  show Ev X k_X9_part (13, [some (vr 135), some (vi (k : Int)), some (vi 0)], [vr 135]) (MS I J cc ss) _
  refine ev_n (fr' := (19, [some (vr 135), some (vi (k : Int)), some (vi 0)], [vl 2, vl 0, vl 0, vr 135])) (S' := MS I J cc ss) 4 rfl ?_
  refine ev_cv rfl rfl rfl ⟨Nat.le_of_ble_eq_true rfl, Nat.le_of_ble_eq_true rfl⟩ (sp_isIn X _ 0 0 2 ) ?_
  show Ev X k_X9_part (22, [some (vr 135), some (vi (k : Int)), some (vi 0)], [vi (if 0 ≤ 0 ∧ 0 ≤ 2 then 1 else 0), vr 135]) (MS I J cc ss) _
  refine ev_beq _ rfl (by decide) (fun (g2 : ¬ (0 ≤ 0 ∧ 0 ≤ 2)) => False.elim (g2 (by omega))) (fun (g2 : 0 ≤ 0 ∧ 0 ≤ 2) => ?_)
  show Ev X k_X9_part (25, [some (vr 135), some (vi (k : Int)), some (vi 0)], [vr 135]) (MS I J cc ss) _
  refine ev_n (fr' := (30, [some (vr 135), some (vi (k : Int)), some (vi 0)], [vi 0, vr 135])) (S' := MS I J cc ss) 2 rfl ?_
  refine ev_n (fr' := (33, [some (vr 135), some (vi (k : Int)), some (vi 0)], [])) (S' := MS (up2 I 135 4 0) J cc ss) 1 rfl ?_
  refine ev_n (fr' := (48, [some (vr 135), some (vi (k : Int)), some (vi 0)], [vi (k : Int), vr 135])) (S' := MS (up2 I 135 4 0) J cc ss) 7 rfl ?_
  refine ev_cv rfl rfl rfl ⟨Nat.le_of_ble_eq_true rfl, Nat.le_of_ble_eq_true rfl⟩ (sp_shapesOf_r X _ _ _ _ k hg hwp (by omega)) ?_
  show Ev X k_X9_part (51, [some (vr 135), some (vi (k : Int)), some (vi 0)], [vi (g (37 * k + 12))]) (MS (up2 I 135 4 0) J cc ss) _
  refine ev_n (fr' := (72, [some (vr 135), some (vi (k : Int)), some (vi 0)], [vi (g (37 * k + 12))])) (S' := MS (up2 I 135 4 0) J cc ss) 1 rfl ?_
  refine ev_r rfl rfl rfl ?_
  exact ⟨_, _, rfl, rfl, rfl, scrM.refl _⟩
theorem rb_part_1 (X : AX) (I J : Nat → Nat → Int) (cc ss : Nat) {g : F1} (k : Nat) (hg : J 136 = g) (hws : WS g) (hwp : WP g) (hwi : WI g) (hk : (k : Int) < g 11) : Ev X k_X9_part (0, [some (vr 135), some (vi (k : Int)), some (vi 1)], []) (MS I J cc ss) (PV cc ss (some (vi (upF g (k : Int)))) (fun I' J' => J' = J ∧ scrM (up2 I 135 4 0) I')) := by
  have q0 := hws.1
  have q1 := hws.2.1
  have q2 := hwp.1
  have q3 := hwp.2.1
  have q4 := hwi.1
  have q5 := hwi.2.1
  have hr := (hwp.2.2 k hk).2.1
  have hr1 := (hwp.2.2 k hk).1
  refine ev_n (fr' := (3, [some (vr 135), some (vi (k : Int)), some (vi 1)], [vi (k : Int), vr 135, vr 135])) (S' := MS I J cc ss) 3 rfl ?_
  refine ev_cv rfl rfl rfl ⟨Nat.le_of_ble_eq_true rfl, Nat.le_of_ble_eq_true rfl⟩ (sp_isPart_r X _ _ _ _ (k : Int) hg hwp) ?_
  show Ev X k_X9_part (6, [some (vr 135), some (vi (k : Int)), some (vi 1)], [vi (if 0 ≤ (k : Int) ∧ (k : Int) ≤ g 11 - 1 then 1 else 0), vr 135]) (MS I J cc ss) _
  refine ev_bne _ rfl (by decide) (fun (g1 : 0 ≤ (k : Int) ∧ (k : Int) ≤ g 11 - 1) => ?_) (fun (g1 : ¬ (0 ≤ (k : Int) ∧ (k : Int) ≤ g 11 - 1)) => False.elim (g1 (by omega)))
  show Ev X k_X9_part (13, [some (vr 135), some (vi (k : Int)), some (vi 1)], [vr 135]) (MS I J cc ss) _
  refine ev_n (fr' := (19, [some (vr 135), some (vi (k : Int)), some (vi 1)], [vl 2, vl 0, vl 1, vr 135])) (S' := MS I J cc ss) 4 rfl ?_
  refine ev_cv rfl rfl rfl ⟨Nat.le_of_ble_eq_true rfl, Nat.le_of_ble_eq_true rfl⟩ (sp_isIn X _ 1 0 2 ) ?_
  show Ev X k_X9_part (22, [some (vr 135), some (vi (k : Int)), some (vi 1)], [vi (if 0 ≤ 1 ∧ 1 ≤ 2 then 1 else 0), vr 135]) (MS I J cc ss) _
  refine ev_beq _ rfl (by decide) (fun (g2 : ¬ (0 ≤ 1 ∧ 1 ≤ 2)) => False.elim (g2 (by omega))) (fun (g2 : 0 ≤ 1 ∧ 1 ≤ 2) => ?_)
  show Ev X k_X9_part (25, [some (vr 135), some (vi (k : Int)), some (vi 1)], [vr 135]) (MS I J cc ss) _
  refine ev_n (fr' := (30, [some (vr 135), some (vi (k : Int)), some (vi 1)], [vi 0, vr 135])) (S' := MS I J cc ss) 2 rfl ?_
  refine ev_n (fr' := (33, [some (vr 135), some (vi (k : Int)), some (vi 1)], [])) (S' := MS (up2 I 135 4 0) J cc ss) 1 rfl ?_
  refine ev_n (fr' := (61, [some (vr 135), some (vi (k : Int)), some (vi 1)], [vi (k : Int), vr 135])) (S' := MS (up2 I 135 4 0) J cc ss) 10 rfl ?_
  refine ev_cv rfl rfl rfl ⟨Nat.le_of_ble_eq_true rfl, Nat.le_of_ble_eq_true rfl⟩ (sp_usesOfPart_r X _ _ _ _ (k : Int) hg hwp hwi) ?_
  show Ev X k_X9_part (64, [some (vr 135), some (vi (k : Int)), some (vi 1)], [vi (upF g (k : Int))]) (MS (up2 I 135 4 0) J cc ss) _
  refine ev_n (fr' := (72, [some (vr 135), some (vi (k : Int)), some (vi 1)], [vi (upF g (k : Int))])) (S' := MS (up2 I 135 4 0) J cc ss) 1 rfl ?_
  refine ev_r rfl rfl rfl ?_
  exact ⟨_, _, rfl, rfl, rfl, scrM.refl _⟩
theorem rb_part_2 (X : AX) (I J : Nat → Nat → Int) (cc ss : Nat) {g : F1} (k : Nat) (hg : J 136 = g) (hws : WS g) (hwp : WP g) (hwi : WI g) (hk : (k : Int) < g 11) : Ev X k_X9_part (0, [some (vr 135), some (vi (k : Int)), some (vi 2)], []) (MS I J cc ss) (PV cc ss (some (vi (mkF g (k : Int) (g 308).toNat))) (fun I' J' => J' = J ∧ scrM (up2 I 135 4 0) I')) := by
  have q0 := hws.1
  have q1 := hws.2.1
  have q2 := hwp.1
  have q3 := hwp.2.1
  have q4 := hwi.1
  have q5 := hwi.2.1
  have hr := (hwp.2.2 k hk).2.1
  have hr1 := (hwp.2.2 k hk).1
  refine ev_n (fr' := (3, [some (vr 135), some (vi (k : Int)), some (vi 2)], [vi (k : Int), vr 135, vr 135])) (S' := MS I J cc ss) 3 rfl ?_
  refine ev_cv rfl rfl rfl ⟨Nat.le_of_ble_eq_true rfl, Nat.le_of_ble_eq_true rfl⟩ (sp_isPart_r X _ _ _ _ (k : Int) hg hwp) ?_
  show Ev X k_X9_part (6, [some (vr 135), some (vi (k : Int)), some (vi 2)], [vi (if 0 ≤ (k : Int) ∧ (k : Int) ≤ g 11 - 1 then 1 else 0), vr 135]) (MS I J cc ss) _
  refine ev_bne _ rfl (by decide) (fun (g1 : 0 ≤ (k : Int) ∧ (k : Int) ≤ g 11 - 1) => ?_) (fun (g1 : ¬ (0 ≤ (k : Int) ∧ (k : Int) ≤ g 11 - 1)) => False.elim (g1 (by omega)))
  show Ev X k_X9_part (13, [some (vr 135), some (vi (k : Int)), some (vi 2)], [vr 135]) (MS I J cc ss) _
  refine ev_n (fr' := (19, [some (vr 135), some (vi (k : Int)), some (vi 2)], [vl 2, vl 0, vl 2, vr 135])) (S' := MS I J cc ss) 4 rfl ?_
  refine ev_cv rfl rfl rfl ⟨Nat.le_of_ble_eq_true rfl, Nat.le_of_ble_eq_true rfl⟩ (sp_isIn X _ 2 0 2 ) ?_
  show Ev X k_X9_part (22, [some (vr 135), some (vi (k : Int)), some (vi 2)], [vi (if 0 ≤ 2 ∧ 2 ≤ 2 then 1 else 0), vr 135]) (MS I J cc ss) _
  refine ev_beq _ rfl (by decide) (fun (g2 : ¬ (0 ≤ 2 ∧ 2 ≤ 2)) => False.elim (g2 (by omega))) (fun (g2 : 0 ≤ 2 ∧ 2 ≤ 2) => ?_)
  show Ev X k_X9_part (25, [some (vr 135), some (vi (k : Int)), some (vi 2)], [vr 135]) (MS I J cc ss) _
  refine ev_n (fr' := (30, [some (vr 135), some (vi (k : Int)), some (vi 2)], [vi 0, vr 135])) (S' := MS I J cc ss) 2 rfl ?_
  refine ev_n (fr' := (33, [some (vr 135), some (vi (k : Int)), some (vi 2)], [])) (S' := MS (up2 I 135 4 0) J cc ss) 1 rfl ?_
  refine ev_n (fr' := (69, [some (vr 135), some (vi (k : Int)), some (vi 2)], [vi (k : Int), vr 135])) (S' := MS (up2 I 135 4 0) J cc ss) 10 rfl ?_
  refine ev_cv rfl rfl rfl ⟨Nat.le_of_ble_eq_true rfl, Nat.le_of_ble_eq_true rfl⟩ (sp_usedBy X _ _ _ _ (k : Int) hg hwp hwi) ?_
  show Ev X k_X9_part (72, [some (vr 135), some (vi (k : Int)), some (vi 2)], [vi (mkF g (k : Int) (g 308).toNat)]) (MS (up2 I 135 4 0) J cc ss) _
  refine ev_r rfl rfl rfl ?_
  exact ⟨_, _, rfl, rfl, rfl, scrM.refl _⟩
