/-! PUBLIC QUESTIONS, class, over drawings (printed by gen/g66.py) -/
theorem sp_reqDr1 (X : AX) (I J : Nat → Nat → Int) (cc ss : Nat) {g : F1} (i k : Nat) (hS : SRep I 1 g) (hP : PRep I J 5 g) (hI : IRep I J 9 g) (hws : WS g) (hwp : WP g) (hwi : WI g) (hi : (i : Int) < g 308) (hk : (k : Int) < g 0) : Ev X k_X8_requireDrawable (0, [some (vr 0), some (vi (i : Int)), some (vi (k : Int))], []) (MS I J cc ss) (fun o T => o = .inl none ∧ T = MS I J cc ss) := by
  refine ev_n (fr' := (8, [some (vr 0), some (vi (i : Int)), some (vi (k : Int))], [vi (i : Int), vr 9])) (S' := MS I J cc ss) 4 rfl ?_
  refine ev_cv rfl rfl rfl ⟨Nat.le_of_ble_eq_true rfl, Nat.le_of_ble_eq_true rfl⟩ (sp_hasRow_9 X _ _ _ _ (i : Int) hI) ?_
  show Ev X k_X8_requireDrawable (11, [some (vr 0), some (vi (i : Int)), some (vi (k : Int))], [vi (if 0 ≤ (i : Int) ∧ (i : Int) < g 308 then 1 else 0)]) (MS I J cc ss) _
  refine ev_beq _ rfl (by decide) (fun (g1 : ¬ (0 ≤ (i : Int) ∧ (i : Int) < g 308)) => False.elim (g1 (by omega))) (fun (g1 : 0 ≤ (i : Int) ∧ (i : Int) < g 308) => ?_)
  show Ev X k_X8_requireDrawable (14, [some (vr 0), some (vi (i : Int)), some (vi (k : Int))], []) (MS I J cc ss) _
  refine ev_n (fr' := (22, [some (vr 0), some (vi (i : Int)), some (vi (k : Int))], [vi (k : Int), vr 2])) (S' := MS I J cc ss) 4 rfl ?_
  refine ev_cv rfl rfl rfl ⟨Nat.le_of_ble_eq_true rfl, Nat.le_of_ble_eq_true rfl⟩ (sp_has_2 X _ _ _ _ (k : Int) hS) ?_
  show Ev X k_X8_requireDrawable (25, [some (vr 0), some (vi (i : Int)), some (vi (k : Int))], [vi (if 0 ≤ (k : Int) ∧ (k : Int) < g 0 then 1 else 0)]) (MS I J cc ss) _
  refine ev_beq _ rfl (by decide) (fun (g2 : ¬ (0 ≤ (k : Int) ∧ (k : Int) < g 0)) => False.elim (g2 (by omega))) (fun (g2 : 0 ≤ (k : Int) ∧ (k : Int) < g 0) => ?_)
  show Ev X k_X8_requireDrawable (28, [some (vr 0), some (vi (i : Int)), some (vi (k : Int))], []) (MS I J cc ss) _
  refine ev_n (fr' := (33, [some (vr 0), some (vi (i : Int)), some (vi (k : Int))], [vi 1])) (S' := MS I J cc ss) 2 rfl ?_
  refine ev_cv rfl rfl rfl ⟨Nat.le_of_ble_eq_true rfl, Nat.le_of_ble_eq_true rfl⟩ (sp_reqI1 X _) ?_
  show Ev X k_X8_requireDrawable (36, [some (vr 0), some (vi (i : Int)), some (vi (k : Int))], []) (MS I J cc ss) _
  refine ev_r rfl rfl rfl ?_
  exact ⟨rfl, rfl⟩
theorem sp_reqDr0a (X : AX) (I J : Nat → Nat → Int) (cc ss : Nat) {g : F1} (y z : Int) (hS : SRep I 1 g) (hP : PRep I J 5 g) (hI : IRep I J 9 g) (hws : WS g) (hwp : WP g) (hwi : WI g) (h : ¬ (0 ≤ y ∧ y < g 308)) : Ev X k_X8_requireDrawable (0, [some (vr 0), some (vi y), some (vi z)], []) (MS I J cc ss) (fun o T => o = .inr 2 ∧ T = MS I J (cc + 1) (ss + 6)) := by
  refine ev_n (fr' := (8, [some (vr 0), some (vi y), some (vi z)], [vi y, vr 9])) (S' := MS I J cc ss) 4 rfl ?_
  refine ev_cv rfl rfl rfl ⟨Nat.le_of_ble_eq_true rfl, Nat.le_of_ble_eq_true rfl⟩ (sp_hasRow_9 X _ _ _ _ y hI) ?_
  show Ev X k_X8_requireDrawable (11, [some (vr 0), some (vi y), some (vi z)], [vi (if 0 ≤ y ∧ y < g 308 then 1 else 0)]) (MS I J cc ss) _
  refine ev_beq _ rfl (by decide) (fun (g1 : ¬ (0 ≤ y ∧ y < g 308)) => ?_) (fun (g1 : 0 ≤ y ∧ y < g 308) => False.elim ((h) g1))
  show Ev X k_X8_requireDrawable (32, [some (vr 0), some (vi y), some (vi z)], []) (MS I J cc ss) _
  refine ev_n (fr' := (33, [some (vr 0), some (vi y), some (vi z)], [vi 0])) (S' := MS I J cc ss) 1 rfl ?_
  refine ev_cx rfl rfl rfl ⟨Nat.le_of_ble_eq_true rfl, Nat.le_of_ble_eq_true rfl⟩ (sp_reqI0 X _ _ _ _) rfl ?_
  exact ⟨rfl, rfl⟩
theorem sp_reqDr0b (X : AX) (I J : Nat → Nat → Int) (cc ss : Nat) {g : F1} (y z : Int) (hS : SRep I 1 g) (hP : PRep I J 5 g) (hI : IRep I J 9 g) (hws : WS g) (hwp : WP g) (hwi : WI g) (h1 : 0 ≤ y ∧ y < g 308) (h : ¬ (0 ≤ z ∧ z < g 0)) : Ev X k_X8_requireDrawable (0, [some (vr 0), some (vi y), some (vi z)], []) (MS I J cc ss) (fun o T => o = .inr 2 ∧ T = MS I J (cc + 1) (ss + 6)) := by
  refine ev_n (fr' := (8, [some (vr 0), some (vi y), some (vi z)], [vi y, vr 9])) (S' := MS I J cc ss) 4 rfl ?_
  refine ev_cv rfl rfl rfl ⟨Nat.le_of_ble_eq_true rfl, Nat.le_of_ble_eq_true rfl⟩ (sp_hasRow_9 X _ _ _ _ y hI) ?_
  show Ev X k_X8_requireDrawable (11, [some (vr 0), some (vi y), some (vi z)], [vi (if 0 ≤ y ∧ y < g 308 then 1 else 0)]) (MS I J cc ss) _
  refine ev_beq _ rfl (by decide) (fun (g1 : ¬ (0 ≤ y ∧ y < g 308)) => False.elim (g1 (h1))) (fun (g1 : 0 ≤ y ∧ y < g 308) => ?_)
  show Ev X k_X8_requireDrawable (14, [some (vr 0), some (vi y), some (vi z)], []) (MS I J cc ss) _
  refine ev_n (fr' := (22, [some (vr 0), some (vi y), some (vi z)], [vi z, vr 2])) (S' := MS I J cc ss) 4 rfl ?_
  refine ev_cv rfl rfl rfl ⟨Nat.le_of_ble_eq_true rfl, Nat.le_of_ble_eq_true rfl⟩ (sp_has_2 X _ _ _ _ z hS) ?_
  show Ev X k_X8_requireDrawable (25, [some (vr 0), some (vi y), some (vi z)], [vi (if 0 ≤ z ∧ z < g 0 then 1 else 0)]) (MS I J cc ss) _
  refine ev_beq _ rfl (by decide) (fun (g2 : ¬ (0 ≤ z ∧ z < g 0)) => ?_) (fun (g2 : 0 ≤ z ∧ z < g 0) => False.elim ((h) g2))
  show Ev X k_X8_requireDrawable (32, [some (vr 0), some (vi y), some (vi z)], []) (MS I J cc ss) _
  refine ev_n (fr' := (33, [some (vr 0), some (vi y), some (vi z)], [vi 0])) (S' := MS I J cc ss) 1 rfl ?_
  refine ev_cx rfl rfl rfl ⟨Nat.le_of_ble_eq_true rfl, Nat.le_of_ble_eq_true rfl⟩ (sp_reqI0 X _ _ _ _) rfl ?_
  exact ⟨rfl, rfl⟩
theorem sp_reqDr0 (X : AX) (I J : Nat → Nat → Int) (cc ss : Nat) {g : F1} (y z : Int) (hS : SRep I 1 g) (hP : PRep I J 5 g) (hI : IRep I J 9 g) (hws : WS g) (hwp : WP g) (hwi : WI g) (h : ¬ ((0 ≤ y ∧ y < g 308) ∧ (0 ≤ z ∧ z < g 0))) : Ev X k_X8_requireDrawable (0, [some (vr 0), some (vi y), some (vi z)], []) (MS I J cc ss) (fun o T => o = .inr 2 ∧ T = MS I J (cc + 1) (ss + 6)) := by
  by_cases h1 : 0 ≤ y ∧ y < g 308
  · exact sp_reqDr0b X I J cc ss y z hS hP hI hws hwp hwi h1 (fun q => h ⟨h1, q⟩)
  · exact sp_reqDr0a X I J cc ss y z hS hP hI hws hwp hwi h1
theorem pb_isInked_x (X : AX) (I J : Nat → Nat → Int) (cc ss : Nat) {g : F1} (y z u v : Int) (hS : SRep I 1 g) (hP : PRep I J 5 g) (hI : IRep I J 9 g) (hws : WS g) (hwp : WP g) (hwi : WI g) (h : ¬ ((0 ≤ y ∧ y < g 308) ∧ (0 ≤ z ∧ z < g 0))) : Ev X k_X8_isInked (0, [some (vr 0), some (vi y), some (vi z), some (vi u), some (vi v), none], []) (MS I J cc ss) (fun o T => o = .inr 2 ∧ T = MS I J (cc + 1) (ss + 6)) := by
  refine ev_n (fr' := (3, [some (vr 0), some (vi y), some (vi z), some (vi u), some (vi v), none], [vi z, vi y, vr 0])) (S' := MS I J cc ss) 3 rfl ?_
  refine ev_cx rfl rfl rfl ⟨Nat.le_of_ble_eq_true rfl, Nat.le_of_ble_eq_true rfl⟩ (sp_reqDr0 X _ _ _ _ y z hS hP hI hws hwp hwi h) rfl ?_
  exact ⟨rfl, rfl⟩
theorem pb_isInked_y (X : AX) (I J : Nat → Nat → Int) (cc ss : Nat) {g : F1} (i k : Nat) (u v : Int) (hS : SRep I 1 g) (hP : PRep I J 5 g) (hI : IRep I J 9 g) (hws : WS g) (hwp : WP g) (hwi : WI g) (hi : (i : Int) < g 308) (hk : (k : Int) < g 0) (h : ¬ (0 ≤ u ∧ u ≤ g (2 * k + 1) - 1)) : Ev X k_X8_isInked (0, [some (vr 0), some (vi (i : Int)), some (vi (k : Int)), some (vi u), some (vi v), none], []) (MS I J cc ss) (fun o T => o = .inr 2 ∧ T = MS I J (cc + 1) (ss + 6)) := by
  have hr := hws.2.2.1 k hk
  refine ev_n (fr' := (3, [some (vr 0), some (vi (i : Int)), some (vi (k : Int)), some (vi u), some (vi v), none], [vi (k : Int), vi (i : Int), vr 0])) (S' := MS I J cc ss) 3 rfl ?_
  refine ev_cv rfl rfl rfl ⟨Nat.le_of_ble_eq_true rfl, Nat.le_of_ble_eq_true rfl⟩ (sp_reqDr1 X _ _ _ _ i k hS hP hI hws hwp hwi (by omega) (by omega)) ?_
  show Ev X k_X8_isInked (6, [some (vr 0), some (vi (i : Int)), some (vi (k : Int)), some (vi u), some (vi v), none], []) (MS I J cc ss) _
  refine ev_n (fr' := (14, [some (vr 0), some (vi (i : Int)), some (vi (k : Int)), some (vi u), some (vi v), none], [vi (k : Int), vr 2])) (S' := MS I J cc ss) 4 rfl ?_
  refine ev_cv rfl rfl rfl ⟨Nat.le_of_ble_eq_true rfl, Nat.le_of_ble_eq_true rfl⟩ (sp_pixelsOf_2 X _ _ _ _ k hS hws (by omega)) ?_
  show Ev X k_X8_isInked (17, [some (vr 0), some (vi (i : Int)), some (vi (k : Int)), some (vi u), some (vi v), none], [vi (g (2 * k + 1))]) (MS I J cc ss) _
  refine ev_n (fr' := (18, [some (vr 0), some (vi (i : Int)), some (vi (k : Int)), some (vi u), some (vi v), none], [vi 1, vi (g (2 * k + 1))])) (S' := MS I J cc ss) 1 rfl ?_
  refine ev_sub (z := (g (2 * k + 1)) - 1) rfl (by omega) (by omega) (by omega) ?_
  show Ev X k_X8_isInked (19, [some (vr 0), some (vi (i : Int)), some (vi (k : Int)), some (vi u), some (vi v), none], [vi ((g (2 * k + 1)) - 1)]) (MS I J cc ss) _
  refine ev_n (fr' := (25, [some (vr 0), some (vi (i : Int)), some (vi (k : Int)), some (vi u), some (vi v), some (vi ((g (2 * k + 1)) - 1))], [vi ((g (2 * k + 1)) - 1), vi 0, vi u])) (S' := MS I J cc ss) 4 rfl ?_
  refine ev_cv rfl rfl rfl ⟨Nat.le_of_ble_eq_true rfl, Nat.le_of_ble_eq_true rfl⟩ (sp_within X _ u 0 ((g (2 * k + 1)) - 1) ) ?_
  show Ev X k_X8_isInked (28, [some (vr 0), some (vi (i : Int)), some (vi (k : Int)), some (vi u), some (vi v), some (vi ((g (2 * k + 1)) - 1))], [vi (if 0 ≤ u ∧ u ≤ (g (2 * k + 1)) - 1 then 1 else 0)]) (MS I J cc ss) _
  refine ev_beq _ rfl (by decide) (fun (g1 : ¬ (0 ≤ u ∧ u ≤ (g (2 * k + 1)) - 1)) => ?_) (fun (g1 : 0 ≤ u ∧ u ≤ (g (2 * k + 1)) - 1) => False.elim ((h) g1))
  show Ev X k_X8_isInked (46, [some (vr 0), some (vi (i : Int)), some (vi (k : Int)), some (vi u), some (vi v), some (vi ((g (2 * k + 1)) - 1))], []) (MS I J cc ss) _
  refine ev_n (fr' := (47, [some (vr 0), some (vi (i : Int)), some (vi (k : Int)), some (vi u), some (vi v), some (vi ((g (2 * k + 1)) - 1))], [vi 0])) (S' := MS I J cc ss) 1 rfl ?_
  refine ev_cx rfl rfl rfl ⟨Nat.le_of_ble_eq_true rfl, Nat.le_of_ble_eq_true rfl⟩ (sp_reqI0 X _ _ _ _) rfl ?_
  exact ⟨rfl, rfl⟩
theorem pb_isInked_z (X : AX) (I J : Nat → Nat → Int) (cc ss : Nat) {g : F1} (i k : Nat) (u v : Int) (hS : SRep I 1 g) (hP : PRep I J 5 g) (hI : IRep I J 9 g) (hws : WS g) (hwp : WP g) (hwi : WI g) (hi : (i : Int) < g 308) (hk : (k : Int) < g 0) (h1 : 0 ≤ u ∧ u ≤ g (2 * k + 1) - 1) (h : ¬ (0 ≤ v ∧ v ≤ g (2 * k + 1) - 1)) : Ev X k_X8_isInked (0, [some (vr 0), some (vi (i : Int)), some (vi (k : Int)), some (vi u), some (vi v), none], []) (MS I J cc ss) (fun o T => o = .inr 2 ∧ T = MS I J (cc + 1) (ss + 6)) := by
  have hr := hws.2.2.1 k hk
  refine ev_n (fr' := (3, [some (vr 0), some (vi (i : Int)), some (vi (k : Int)), some (vi u), some (vi v), none], [vi (k : Int), vi (i : Int), vr 0])) (S' := MS I J cc ss) 3 rfl ?_
  refine ev_cv rfl rfl rfl ⟨Nat.le_of_ble_eq_true rfl, Nat.le_of_ble_eq_true rfl⟩ (sp_reqDr1 X _ _ _ _ i k hS hP hI hws hwp hwi (by omega) (by omega)) ?_
  show Ev X k_X8_isInked (6, [some (vr 0), some (vi (i : Int)), some (vi (k : Int)), some (vi u), some (vi v), none], []) (MS I J cc ss) _
  refine ev_n (fr' := (14, [some (vr 0), some (vi (i : Int)), some (vi (k : Int)), some (vi u), some (vi v), none], [vi (k : Int), vr 2])) (S' := MS I J cc ss) 4 rfl ?_
  refine ev_cv rfl rfl rfl ⟨Nat.le_of_ble_eq_true rfl, Nat.le_of_ble_eq_true rfl⟩ (sp_pixelsOf_2 X _ _ _ _ k hS hws (by omega)) ?_
  show Ev X k_X8_isInked (17, [some (vr 0), some (vi (i : Int)), some (vi (k : Int)), some (vi u), some (vi v), none], [vi (g (2 * k + 1))]) (MS I J cc ss) _
  refine ev_n (fr' := (18, [some (vr 0), some (vi (i : Int)), some (vi (k : Int)), some (vi u), some (vi v), none], [vi 1, vi (g (2 * k + 1))])) (S' := MS I J cc ss) 1 rfl ?_
  refine ev_sub (z := (g (2 * k + 1)) - 1) rfl (by omega) (by omega) (by omega) ?_
  show Ev X k_X8_isInked (19, [some (vr 0), some (vi (i : Int)), some (vi (k : Int)), some (vi u), some (vi v), none], [vi ((g (2 * k + 1)) - 1)]) (MS I J cc ss) _
  refine ev_n (fr' := (25, [some (vr 0), some (vi (i : Int)), some (vi (k : Int)), some (vi u), some (vi v), some (vi ((g (2 * k + 1)) - 1))], [vi ((g (2 * k + 1)) - 1), vi 0, vi u])) (S' := MS I J cc ss) 4 rfl ?_
  refine ev_cv rfl rfl rfl ⟨Nat.le_of_ble_eq_true rfl, Nat.le_of_ble_eq_true rfl⟩ (sp_within X _ u 0 ((g (2 * k + 1)) - 1) ) ?_
  show Ev X k_X8_isInked (28, [some (vr 0), some (vi (i : Int)), some (vi (k : Int)), some (vi u), some (vi v), some (vi ((g (2 * k + 1)) - 1))], [vi (if 0 ≤ u ∧ u ≤ (g (2 * k + 1)) - 1 then 1 else 0)]) (MS I J cc ss) _
  refine ev_beq _ rfl (by decide) (fun (g1 : ¬ (0 ≤ u ∧ u ≤ (g (2 * k + 1)) - 1)) => False.elim (g1 (h1))) (fun (g1 : 0 ≤ u ∧ u ≤ (g (2 * k + 1)) - 1) => ?_)
  show Ev X k_X8_isInked (31, [some (vr 0), some (vi (i : Int)), some (vi (k : Int)), some (vi u), some (vi v), some (vi ((g (2 * k + 1)) - 1))], []) (MS I J cc ss) _
  refine ev_n (fr' := (36, [some (vr 0), some (vi (i : Int)), some (vi (k : Int)), some (vi u), some (vi v), some (vi ((g (2 * k + 1)) - 1))], [vi ((g (2 * k + 1)) - 1), vi 0, vi v])) (S' := MS I J cc ss) 3 rfl ?_
  refine ev_cv rfl rfl rfl ⟨Nat.le_of_ble_eq_true rfl, Nat.le_of_ble_eq_true rfl⟩ (sp_within X _ v 0 ((g (2 * k + 1)) - 1) ) ?_
  show Ev X k_X8_isInked (39, [some (vr 0), some (vi (i : Int)), some (vi (k : Int)), some (vi u), some (vi v), some (vi ((g (2 * k + 1)) - 1))], [vi (if 0 ≤ v ∧ v ≤ (g (2 * k + 1)) - 1 then 1 else 0)]) (MS I J cc ss) _
  refine ev_beq _ rfl (by decide) (fun (g2 : ¬ (0 ≤ v ∧ v ≤ (g (2 * k + 1)) - 1)) => ?_) (fun (g2 : 0 ≤ v ∧ v ≤ (g (2 * k + 1)) - 1) => False.elim ((h) g2))
  show Ev X k_X8_isInked (46, [some (vr 0), some (vi (i : Int)), some (vi (k : Int)), some (vi u), some (vi v), some (vi ((g (2 * k + 1)) - 1))], []) (MS I J cc ss) _
  refine ev_n (fr' := (47, [some (vr 0), some (vi (i : Int)), some (vi (k : Int)), some (vi u), some (vi v), some (vi ((g (2 * k + 1)) - 1))], [vi 0])) (S' := MS I J cc ss) 1 rfl ?_
  refine ev_cx rfl rfl rfl ⟨Nat.le_of_ble_eq_true rfl, Nat.le_of_ble_eq_true rfl⟩ (sp_reqI0 X _ _ _ _) rfl ?_
  exact ⟨rfl, rfl⟩
theorem pb_isInked (X : AX) (I J : Nat → Nat → Int) (cc ss : Nat) {g : F1} (i k u v : Nat) (hS : SRep I 1 g) (hP : PRep I J 5 g) (hI : IRep I J 9 g) (hws : WS g) (hwp : WP g) (hwi : WI g) (hi : (i : Int) < g 308) (hk : (k : Int) < g 0) (hu : (u : Int) < g (2 * k + 1)) (hv : (v : Int) < g (2 * k + 1)) : Ev X k_X8_isInked (0, [some (vr 0), some (vi (i : Int)), some (vi (k : Int)), some (vi (u : Int)), some (vi (v : Int)), none], []) (MS I J cc ss) (PV cc ss (some (vi (if (icF g i (g (2 * k + 1)) (g (2 * k + 2))) v u = true then 1 else 0))) (fun I' J' => J' = J ∧ scrC I I')) := by
  have hO := scrC.refl I
  have hr := hws.2.2.1 k hk
  refine ev_n (fr' := (3, [some (vr 0), some (vi (i : Int)), some (vi (k : Int)), some (vi (u : Int)), some (vi (v : Int)), none], [vi (k : Int), vi (i : Int), vr 0])) (S' := MS I J cc ss) 3 rfl ?_
  refine ev_cv rfl rfl rfl ⟨Nat.le_of_ble_eq_true rfl, Nat.le_of_ble_eq_true rfl⟩ (sp_reqDr1 X _ _ _ _ i k hS hP hI hws hwp hwi (by omega) (by omega)) ?_
  show Ev X k_X8_isInked (6, [some (vr 0), some (vi (i : Int)), some (vi (k : Int)), some (vi (u : Int)), some (vi (v : Int)), none], []) (MS I J cc ss) _
  refine ev_n (fr' := (14, [some (vr 0), some (vi (i : Int)), some (vi (k : Int)), some (vi (u : Int)), some (vi (v : Int)), none], [vi (k : Int), vr 2])) (S' := MS I J cc ss) 4 rfl ?_
  refine ev_cv rfl rfl rfl ⟨Nat.le_of_ble_eq_true rfl, Nat.le_of_ble_eq_true rfl⟩ (sp_pixelsOf_2 X _ _ _ _ k hS hws (by omega)) ?_
  show Ev X k_X8_isInked (17, [some (vr 0), some (vi (i : Int)), some (vi (k : Int)), some (vi (u : Int)), some (vi (v : Int)), none], [vi (g (2 * k + 1))]) (MS I J cc ss) _
  refine ev_n (fr' := (18, [some (vr 0), some (vi (i : Int)), some (vi (k : Int)), some (vi (u : Int)), some (vi (v : Int)), none], [vi 1, vi (g (2 * k + 1))])) (S' := MS I J cc ss) 1 rfl ?_
  refine ev_sub (z := (g (2 * k + 1)) - 1) rfl (by omega) (by omega) (by omega) ?_
  show Ev X k_X8_isInked (19, [some (vr 0), some (vi (i : Int)), some (vi (k : Int)), some (vi (u : Int)), some (vi (v : Int)), none], [vi ((g (2 * k + 1)) - 1)]) (MS I J cc ss) _
  refine ev_n (fr' := (25, [some (vr 0), some (vi (i : Int)), some (vi (k : Int)), some (vi (u : Int)), some (vi (v : Int)), some (vi ((g (2 * k + 1)) - 1))], [vi ((g (2 * k + 1)) - 1), vi 0, vi (u : Int)])) (S' := MS I J cc ss) 4 rfl ?_
  refine ev_cv rfl rfl rfl ⟨Nat.le_of_ble_eq_true rfl, Nat.le_of_ble_eq_true rfl⟩ (sp_within X _ (u : Int) 0 ((g (2 * k + 1)) - 1) ) ?_
  show Ev X k_X8_isInked (28, [some (vr 0), some (vi (i : Int)), some (vi (k : Int)), some (vi (u : Int)), some (vi (v : Int)), some (vi ((g (2 * k + 1)) - 1))], [vi (if 0 ≤ (u : Int) ∧ (u : Int) ≤ (g (2 * k + 1)) - 1 then 1 else 0)]) (MS I J cc ss) _
  refine ev_beq _ rfl (by decide) (fun (g1 : ¬ (0 ≤ (u : Int) ∧ (u : Int) ≤ (g (2 * k + 1)) - 1)) => False.elim (g1 (by omega))) (fun (g1 : 0 ≤ (u : Int) ∧ (u : Int) ≤ (g (2 * k + 1)) - 1) => ?_)
  show Ev X k_X8_isInked (31, [some (vr 0), some (vi (i : Int)), some (vi (k : Int)), some (vi (u : Int)), some (vi (v : Int)), some (vi ((g (2 * k + 1)) - 1))], []) (MS I J cc ss) _
  refine ev_n (fr' := (36, [some (vr 0), some (vi (i : Int)), some (vi (k : Int)), some (vi (u : Int)), some (vi (v : Int)), some (vi ((g (2 * k + 1)) - 1))], [vi ((g (2 * k + 1)) - 1), vi 0, vi (v : Int)])) (S' := MS I J cc ss) 3 rfl ?_
  refine ev_cv rfl rfl rfl ⟨Nat.le_of_ble_eq_true rfl, Nat.le_of_ble_eq_true rfl⟩ (sp_within X _ (v : Int) 0 ((g (2 * k + 1)) - 1) ) ?_
  show Ev X k_X8_isInked (39, [some (vr 0), some (vi (i : Int)), some (vi (k : Int)), some (vi (u : Int)), some (vi (v : Int)), some (vi ((g (2 * k + 1)) - 1))], [vi (if 0 ≤ (v : Int) ∧ (v : Int) ≤ (g (2 * k + 1)) - 1 then 1 else 0)]) (MS I J cc ss) _
  refine ev_beq _ rfl (by decide) (fun (g2 : ¬ (0 ≤ (v : Int) ∧ (v : Int) ≤ (g (2 * k + 1)) - 1)) => False.elim (g2 (by omega))) (fun (g2 : 0 ≤ (v : Int) ∧ (v : Int) ≤ (g (2 * k + 1)) - 1) => ?_)
  show Ev X k_X8_isInked (42, [some (vr 0), some (vi (i : Int)), some (vi (k : Int)), some (vi (u : Int)), some (vi (v : Int)), some (vi ((g (2 * k + 1)) - 1))], []) (MS I J cc ss) _
  refine ev_n (fr' := (47, [some (vr 0), some (vi (i : Int)), some (vi (k : Int)), some (vi (u : Int)), some (vi (v : Int)), some (vi ((g (2 * k + 1)) - 1))], [vi 1])) (S' := MS I J cc ss) 2 rfl ?_
  refine ev_cv rfl rfl rfl ⟨Nat.le_of_ble_eq_true rfl, Nat.le_of_ble_eq_true rfl⟩ (sp_reqI1 X _) ?_
  show Ev X k_X8_isInked (50, [some (vr 0), some (vi (i : Int)), some (vi (k : Int)), some (vi (u : Int)), some (vi (v : Int)), some (vi ((g (2 * k + 1)) - 1))], []) (MS I J cc ss) _
  refine ev_n (fr' := (57, [some (vr 0), some (vi (i : Int)), some (vi (k : Int)), some (vi (u : Int)), some (vi (v : Int)), some (vi ((g (2 * k + 1)) - 1))], [vi (k : Int), vi (i : Int), vr 126, vr 0])) (S' := MS I J cc ss) 5 rfl ?_
  refine ev_cp rfl rfl rfl ⟨Nat.le_of_ble_eq_true rfl, Nat.le_of_ble_eq_true rfl⟩ (sp_drawAt_126 X _ _ _ _ i k hS hP hI hwp hwi hws (by omega) (by omega)) (fun I1 J q2 => ?_)
  obtain ⟨rfl, rI1, hD126⟩ := q2
  show Ev X k_X8_isInked (60, [some (vr 0), some (vi (i : Int)), some (vi (k : Int)), some (vi (u : Int)), some (vi (v : Int)), some (vi ((g (2 * k + 1)) - 1))], []) (MS I1 J cc ss) _
  have hO := hO.trans (rI1.scr (by decide))
  have hS := onlyD.S rI1 (by decide) (by decide) hS
  have hP := onlyD.P rI1 (by decide) (by decide) hP
  have hI := onlyD.I rI1 (by decide) (by decide) hI
  refine ev_n (fr' := (67, [some (vr 0), some (vi (i : Int)), some (vi (k : Int)), some (vi (u : Int)), some (vi (v : Int)), some (vi ((g (2 * k + 1)) - 1))], [vi (v : Int), vi (u : Int), vr 126])) (S' := MS I1 J cc ss) 4 rfl ?_
  refine ev_cv rfl rfl rfl ⟨Nat.le_of_ble_eq_true rfl, Nat.le_of_ble_eq_true rfl⟩ (sp_hasInk_126 X _ _ _ _ u v hD126 (by omega) (by omega)) ?_
  show Ev X k_X8_isInked (70, [some (vr 0), some (vi (i : Int)), some (vi (k : Int)), some (vi (u : Int)), some (vi (v : Int)), some (vi ((g (2 * k + 1)) - 1))], [vi (if (icF g i (g (2 * k + 1)) (g (2 * k + 2))) v u = true then 1 else 0)]) (MS I1 J cc ss) _
  refine ev_r rfl rfl (rt_b _) ?_
  exact ⟨_, _, rfl, rfl, rfl, hO⟩
theorem pb_measure_x (X : AX) (I J : Nat → Nat → Int) (cc ss : Nat) {g : F1} (y z w : Int) (hS : SRep I 1 g) (hP : PRep I J 5 g) (hI : IRep I J 9 g) (hws : WS g) (hwp : WP g) (hwi : WI g) (h : ¬ ((0 ≤ y ∧ y < g 308) ∧ (0 ≤ z ∧ z < g 0))) : Ev X k_X8_measure (0, [some (vr 0), some (vi y), some (vi z), some (vi w)], []) (MS I J cc ss) (fun o T => o = .inr 2 ∧ T = MS I J (cc + 1) (ss + 6)) := by
  refine ev_n (fr' := (3, [some (vr 0), some (vi y), some (vi z), some (vi w)], [vi z, vi y, vr 0])) (S' := MS I J cc ss) 3 rfl ?_
  refine ev_cx rfl rfl rfl ⟨Nat.le_of_ble_eq_true rfl, Nat.le_of_ble_eq_true rfl⟩ (sp_reqDr0 X _ _ _ _ y z hS hP hI hws hwp hwi h) rfl ?_
  exact ⟨rfl, rfl⟩
theorem pb_measure_y (X : AX) (I J : Nat → Nat → Int) (cc ss : Nat) {g : F1} (i k : Nat) (w : Int) (hS : SRep I 1 g) (hP : PRep I J 5 g) (hI : IRep I J 9 g) (hws : WS g) (hwp : WP g) (hwi : WI g) (hi : (i : Int) < g 308) (hk : (k : Int) < g 0) (h : ¬ (0 ≤ w ∧ w ≤ 7)) : Ev X k_X8_measure (0, [some (vr 0), some (vi (i : Int)), some (vi (k : Int)), some (vi w)], []) (MS I J cc ss) (fun o T => o = .inr 1 ∧ T = MS I J (cc + 1) (ss + 6)) := by
  refine ev_n (fr' := (3, [some (vr 0), some (vi (i : Int)), some (vi (k : Int)), some (vi w)], [vi (k : Int), vi (i : Int), vr 0])) (S' := MS I J cc ss) 3 rfl ?_
  refine ev_cv rfl rfl rfl ⟨Nat.le_of_ble_eq_true rfl, Nat.le_of_ble_eq_true rfl⟩ (sp_reqDr1 X _ _ _ _ i k hS hP hI hws hwp hwi (by omega) (by omega)) ?_
  show Ev X k_X8_measure (6, [some (vr 0), some (vi (i : Int)), some (vi (k : Int)), some (vi w)], []) (MS I J cc ss) _
  refine ev_n (fr' := (10, [some (vr 0), some (vi (i : Int)), some (vi (k : Int)), some (vi w)], [vi 7, vi 0, vi w])) (S' := MS I J cc ss) 3 rfl ?_
  refine ev_cv rfl rfl rfl ⟨Nat.le_of_ble_eq_true rfl, Nat.le_of_ble_eq_true rfl⟩ (sp_within X _ w 0 7 ) ?_
  show Ev X k_X8_measure (13, [some (vr 0), some (vi (i : Int)), some (vi (k : Int)), some (vi w)], [vi (if 0 ≤ w ∧ w ≤ 7 then 1 else 0)]) (MS I J cc ss) _
  refine ev_s0 _ (by omega) ?_
  show Ev X k_X8_measure (13, [some (vr 0), some (vi (i : Int)), some (vi (k : Int)), some (vi w)], [vi 0]) (MS I J cc ss) _
  refine ev_cx rfl rfl rfl ⟨Nat.le_of_ble_eq_true rfl, Nat.le_of_ble_eq_true rfl⟩ (sp_reqA0 X _ _ _ _) rfl ?_
  exact ⟨rfl, rfl⟩
theorem pb_measure_0 (X : AX) (I J : Nat → Nat → Int) (cc ss : Nat) {g : F1} (i k : Nat) (hS : SRep I 1 g) (hP : PRep I J 5 g) (hI : IRep I J 9 g) (hws : WS g) (hwp : WP g) (hwi : WI g) (hi : (i : Int) < g 308) (hk : (k : Int) < g 0) : Ev X k_X8_measure (0, [some (vr 0), some (vi (i : Int)), some (vi (k : Int)), some (vi 0)], []) (MS I J cc ss) (PV cc ss (some (vi (cntB (icF g i (g (2 * k + 1)) (g (2 * k + 2)))))) (fun I' J' => J' = J ∧ scrC I I')) := by
  have hO := scrC.refl I
  have hr := hws.2.2.1 k hk
  have hr4 : 4 ≤ g (2 * k + 1) ∧ g (2 * k + 1) ≤ 32 := by omega
  refine ev_n (fr' := (3, [some (vr 0), some (vi (i : Int)), some (vi (k : Int)), some (vi 0)], [vi (k : Int), vi (i : Int), vr 0])) (S' := MS I J cc ss) 3 rfl ?_
  refine ev_cv rfl rfl rfl ⟨Nat.le_of_ble_eq_true rfl, Nat.le_of_ble_eq_true rfl⟩ (sp_reqDr1 X _ _ _ _ i k hS hP hI hws hwp hwi (by omega) (by omega)) ?_
  show Ev X k_X8_measure (6, [some (vr 0), some (vi (i : Int)), some (vi (k : Int)), some (vi 0)], []) (MS I J cc ss) _
  refine ev_n (fr' := (10, [some (vr 0), some (vi (i : Int)), some (vi (k : Int)), some (vi 0)], [vi 7, vi 0, vi 0])) (S' := MS I J cc ss) 3 rfl ?_
  refine ev_cv rfl rfl rfl ⟨Nat.le_of_ble_eq_true rfl, Nat.le_of_ble_eq_true rfl⟩ (sp_within X _ 0 0 7 ) ?_
  show Ev X k_X8_measure (13, [some (vr 0), some (vi (i : Int)), some (vi (k : Int)), some (vi 0)], [vi (if 0 ≤ 0 ∧ 0 ≤ 7 then 1 else 0)]) (MS I J cc ss) _
  refine ev_s1 _ (by omega) ?_
  show Ev X k_X8_measure (13, [some (vr 0), some (vi (i : Int)), some (vi (k : Int)), some (vi 0)], [vi 1]) (MS I J cc ss) _
  refine ev_cv rfl rfl rfl ⟨Nat.le_of_ble_eq_true rfl, Nat.le_of_ble_eq_true rfl⟩ (sp_reqA1 X _) ?_
  show Ev X k_X8_measure (16, [some (vr 0), some (vi (i : Int)), some (vi (k : Int)), some (vi 0)], []) (MS I J cc ss) _
  refine ev_n (fr' := (23, [some (vr 0), some (vi (i : Int)), some (vi (k : Int)), some (vi 0)], [vi (k : Int), vi (i : Int), vr 126, vr 0])) (S' := MS I J cc ss) 5 rfl ?_
  refine ev_cp rfl rfl rfl ⟨Nat.le_of_ble_eq_true rfl, Nat.le_of_ble_eq_true rfl⟩ (sp_drawAt_126 X _ _ _ _ i k hS hP hI hwp hwi hws (by omega) (by omega)) (fun I1 J q2 => ?_)
  obtain ⟨rfl, rI1, hD126⟩ := q2
  show Ev X k_X8_measure (26, [some (vr 0), some (vi (i : Int)), some (vi (k : Int)), some (vi 0)], []) (MS I1 J cc ss) _
  have hO := hO.trans (rI1.scr (by decide))
  have hS := onlyD.S rI1 (by decide) (by decide) hS
  have hP := onlyD.P rI1 (by decide) (by decide) hP
  have hI := onlyD.I rI1 (by decide) (by decide) hI
  refine ev_n (fr' := (72, [some (vr 0), some (vi (i : Int)), some (vi (k : Int)), some (vi 0)], [vr 126])) (S' := MS I1 J cc ss) 4 rfl ?_
  refine ev_cv rfl rfl rfl ⟨Nat.le_of_ble_eq_true rfl, Nat.le_of_ble_eq_true rfl⟩ (sp_ink_126 X _ _ _ _ hD126) ?_
  show Ev X k_X8_measure (75, [some (vr 0), some (vi (i : Int)), some (vi (k : Int)), some (vi 0)], [vi (cntB (icF g i (g (2 * k + 1)) (g (2 * k + 2))))]) (MS I1 J cc ss) _
  refine ev_r rfl rfl rfl ?_
  exact ⟨_, _, rfl, rfl, rfl, hO⟩
theorem pb_measure_1 (X : AX) (I J : Nat → Nat → Int) (cc ss : Nat) {g : F1} (i k : Nat) (hS : SRep I 1 g) (hP : PRep I J 5 g) (hI : IRep I J 9 g) (hws : WS g) (hwp : WP g) (hwi : WI g) (hi : (i : Int) < g 308) (hk : (k : Int) < g 0) : Ev X k_X8_measure (0, [some (vr 0), some (vi (i : Int)), some (vi (k : Int)), some (vi 1)], []) (MS I J cc ss) (PV cc ss (some (vi (wF (icF g i (g (2 * k + 1)) (g (2 * k + 2))) (g (2 * k + 1))))) (fun I' J' => J' = J ∧ scrC I I')) := by
  have hO := scrC.refl I
  have hr := hws.2.2.1 k hk
  have hr4 : 4 ≤ g (2 * k + 1) ∧ g (2 * k + 1) ≤ 32 := by omega
  refine ev_n (fr' := (3, [some (vr 0), some (vi (i : Int)), some (vi (k : Int)), some (vi 1)], [vi (k : Int), vi (i : Int), vr 0])) (S' := MS I J cc ss) 3 rfl ?_
  refine ev_cv rfl rfl rfl ⟨Nat.le_of_ble_eq_true rfl, Nat.le_of_ble_eq_true rfl⟩ (sp_reqDr1 X _ _ _ _ i k hS hP hI hws hwp hwi (by omega) (by omega)) ?_
  show Ev X k_X8_measure (6, [some (vr 0), some (vi (i : Int)), some (vi (k : Int)), some (vi 1)], []) (MS I J cc ss) _
  refine ev_n (fr' := (10, [some (vr 0), some (vi (i : Int)), some (vi (k : Int)), some (vi 1)], [vi 7, vi 0, vi 1])) (S' := MS I J cc ss) 3 rfl ?_
  refine ev_cv rfl rfl rfl ⟨Nat.le_of_ble_eq_true rfl, Nat.le_of_ble_eq_true rfl⟩ (sp_within X _ 1 0 7 ) ?_
  show Ev X k_X8_measure (13, [some (vr 0), some (vi (i : Int)), some (vi (k : Int)), some (vi 1)], [vi (if 0 ≤ 1 ∧ 1 ≤ 7 then 1 else 0)]) (MS I J cc ss) _
  refine ev_s1 _ (by omega) ?_
  show Ev X k_X8_measure (13, [some (vr 0), some (vi (i : Int)), some (vi (k : Int)), some (vi 1)], [vi 1]) (MS I J cc ss) _
  refine ev_cv rfl rfl rfl ⟨Nat.le_of_ble_eq_true rfl, Nat.le_of_ble_eq_true rfl⟩ (sp_reqA1 X _) ?_
  show Ev X k_X8_measure (16, [some (vr 0), some (vi (i : Int)), some (vi (k : Int)), some (vi 1)], []) (MS I J cc ss) _
  refine ev_n (fr' := (23, [some (vr 0), some (vi (i : Int)), some (vi (k : Int)), some (vi 1)], [vi (k : Int), vi (i : Int), vr 126, vr 0])) (S' := MS I J cc ss) 5 rfl ?_
  refine ev_cp rfl rfl rfl ⟨Nat.le_of_ble_eq_true rfl, Nat.le_of_ble_eq_true rfl⟩ (sp_drawAt_126 X _ _ _ _ i k hS hP hI hwp hwi hws (by omega) (by omega)) (fun I1 J q2 => ?_)
  obtain ⟨rfl, rI1, hD126⟩ := q2
  show Ev X k_X8_measure (26, [some (vr 0), some (vi (i : Int)), some (vi (k : Int)), some (vi 1)], []) (MS I1 J cc ss) _
  have hO := hO.trans (rI1.scr (by decide))
  have hS := onlyD.S rI1 (by decide) (by decide) hS
  have hP := onlyD.P rI1 (by decide) (by decide) hP
  have hI := onlyD.I rI1 (by decide) (by decide) hI
  refine ev_n (fr' := (80, [some (vr 0), some (vi (i : Int)), some (vi (k : Int)), some (vi 1)], [vr 126])) (S' := MS I1 J cc ss) 4 rfl ?_
  refine ev_cv rfl rfl rfl ⟨Nat.le_of_ble_eq_true rfl, Nat.le_of_ble_eq_true rfl⟩ (sp_weight_126 X _ _ _ _ hD126 hr4) ?_
  show Ev X k_X8_measure (83, [some (vr 0), some (vi (i : Int)), some (vi (k : Int)), some (vi 1)], [vi (wF (icF g i (g (2 * k + 1)) (g (2 * k + 2))) (g (2 * k + 1)))]) (MS I1 J cc ss) _
  refine ev_r rfl rfl rfl ?_
  exact ⟨_, _, rfl, rfl, rfl, hO⟩
theorem pb_measure_4 (X : AX) (I J : Nat → Nat → Int) (cc ss : Nat) {g : F1} (i k : Nat) (hS : SRep I 1 g) (hP : PRep I J 5 g) (hI : IRep I J 9 g) (hws : WS g) (hwp : WP g) (hwi : WI g) (hi : (i : Int) < g 308) (hk : (k : Int) < g 0) : Ev X k_X8_measure (0, [some (vr 0), some (vi (i : Int)), some (vi (k : Int)), some (vi 4)], []) (MS I J cc ss) (PV cc ss (some (vi (firstF (colB (icF g i (g (2 * k + 1)) (g (2 * k + 2))))))) (fun I' J' => J' = J ∧ scrC I I')) := by
  have hO := scrC.refl I
  have hr := hws.2.2.1 k hk
  have hr4 : 4 ≤ g (2 * k + 1) ∧ g (2 * k + 1) ≤ 32 := by omega
  refine ev_n (fr' := (3, [some (vr 0), some (vi (i : Int)), some (vi (k : Int)), some (vi 4)], [vi (k : Int), vi (i : Int), vr 0])) (S' := MS I J cc ss) 3 rfl ?_
  refine ev_cv rfl rfl rfl ⟨Nat.le_of_ble_eq_true rfl, Nat.le_of_ble_eq_true rfl⟩ (sp_reqDr1 X _ _ _ _ i k hS hP hI hws hwp hwi (by omega) (by omega)) ?_
  show Ev X k_X8_measure (6, [some (vr 0), some (vi (i : Int)), some (vi (k : Int)), some (vi 4)], []) (MS I J cc ss) _
  refine ev_n (fr' := (10, [some (vr 0), some (vi (i : Int)), some (vi (k : Int)), some (vi 4)], [vi 7, vi 0, vi 4])) (S' := MS I J cc ss) 3 rfl ?_
  refine ev_cv rfl rfl rfl ⟨Nat.le_of_ble_eq_true rfl, Nat.le_of_ble_eq_true rfl⟩ (sp_within X _ 4 0 7 ) ?_
  show Ev X k_X8_measure (13, [some (vr 0), some (vi (i : Int)), some (vi (k : Int)), some (vi 4)], [vi (if 0 ≤ 4 ∧ 4 ≤ 7 then 1 else 0)]) (MS I J cc ss) _
  refine ev_s1 _ (by omega) ?_
  show Ev X k_X8_measure (13, [some (vr 0), some (vi (i : Int)), some (vi (k : Int)), some (vi 4)], [vi 1]) (MS I J cc ss) _
  refine ev_cv rfl rfl rfl ⟨Nat.le_of_ble_eq_true rfl, Nat.le_of_ble_eq_true rfl⟩ (sp_reqA1 X _) ?_
  show Ev X k_X8_measure (16, [some (vr 0), some (vi (i : Int)), some (vi (k : Int)), some (vi 4)], []) (MS I J cc ss) _
  refine ev_n (fr' := (23, [some (vr 0), some (vi (i : Int)), some (vi (k : Int)), some (vi 4)], [vi (k : Int), vi (i : Int), vr 126, vr 0])) (S' := MS I J cc ss) 5 rfl ?_
  refine ev_cp rfl rfl rfl ⟨Nat.le_of_ble_eq_true rfl, Nat.le_of_ble_eq_true rfl⟩ (sp_drawAt_126 X _ _ _ _ i k hS hP hI hwp hwi hws (by omega) (by omega)) (fun I1 J q2 => ?_)
  obtain ⟨rfl, rI1, hD126⟩ := q2
  show Ev X k_X8_measure (26, [some (vr 0), some (vi (i : Int)), some (vi (k : Int)), some (vi 4)], []) (MS I1 J cc ss) _
  have hO := hO.trans (rI1.scr (by decide))
  have hS := onlyD.S rI1 (by decide) (by decide) hS
  have hP := onlyD.P rI1 (by decide) (by decide) hP
  have hI := onlyD.I rI1 (by decide) (by decide) hI
  refine ev_n (fr' := (112, [some (vr 0), some (vi (i : Int)), some (vi (k : Int)), some (vi 4)], [vr 126])) (S' := MS I1 J cc ss) 4 rfl ?_
  refine ev_cv rfl rfl rfl ⟨Nat.le_of_ble_eq_true rfl, Nat.le_of_ble_eq_true rfl⟩ (sp_firstColumn X _ _ _ _ hD126) ?_
  show Ev X k_X8_measure (115, [some (vr 0), some (vi (i : Int)), some (vi (k : Int)), some (vi 4)], [vi (firstF (colB (icF g i (g (2 * k + 1)) (g (2 * k + 2)))))]) (MS I1 J cc ss) _
  refine ev_r rfl rfl rfl ?_
  exact ⟨_, _, rfl, rfl, rfl, hO⟩
theorem pb_measure_5 (X : AX) (I J : Nat → Nat → Int) (cc ss : Nat) {g : F1} (i k : Nat) (hS : SRep I 1 g) (hP : PRep I J 5 g) (hI : IRep I J 9 g) (hws : WS g) (hwp : WP g) (hwi : WI g) (hi : (i : Int) < g 308) (hk : (k : Int) < g 0) : Ev X k_X8_measure (0, [some (vr 0), some (vi (i : Int)), some (vi (k : Int)), some (vi 5)], []) (MS I J cc ss) (PV cc ss (some (vi (firstF (rowB (icF g i (g (2 * k + 1)) (g (2 * k + 2))))))) (fun I' J' => J' = J ∧ scrC I I')) := by
  have hO := scrC.refl I
  have hr := hws.2.2.1 k hk
  have hr4 : 4 ≤ g (2 * k + 1) ∧ g (2 * k + 1) ≤ 32 := by omega
  refine ev_n (fr' := (3, [some (vr 0), some (vi (i : Int)), some (vi (k : Int)), some (vi 5)], [vi (k : Int), vi (i : Int), vr 0])) (S' := MS I J cc ss) 3 rfl ?_
  refine ev_cv rfl rfl rfl ⟨Nat.le_of_ble_eq_true rfl, Nat.le_of_ble_eq_true rfl⟩ (sp_reqDr1 X _ _ _ _ i k hS hP hI hws hwp hwi (by omega) (by omega)) ?_
  show Ev X k_X8_measure (6, [some (vr 0), some (vi (i : Int)), some (vi (k : Int)), some (vi 5)], []) (MS I J cc ss) _
  refine ev_n (fr' := (10, [some (vr 0), some (vi (i : Int)), some (vi (k : Int)), some (vi 5)], [vi 7, vi 0, vi 5])) (S' := MS I J cc ss) 3 rfl ?_
  refine ev_cv rfl rfl rfl ⟨Nat.le_of_ble_eq_true rfl, Nat.le_of_ble_eq_true rfl⟩ (sp_within X _ 5 0 7 ) ?_
  show Ev X k_X8_measure (13, [some (vr 0), some (vi (i : Int)), some (vi (k : Int)), some (vi 5)], [vi (if 0 ≤ 5 ∧ 5 ≤ 7 then 1 else 0)]) (MS I J cc ss) _
  refine ev_s1 _ (by omega) ?_
  show Ev X k_X8_measure (13, [some (vr 0), some (vi (i : Int)), some (vi (k : Int)), some (vi 5)], [vi 1]) (MS I J cc ss) _
  refine ev_cv rfl rfl rfl ⟨Nat.le_of_ble_eq_true rfl, Nat.le_of_ble_eq_true rfl⟩ (sp_reqA1 X _) ?_
  show Ev X k_X8_measure (16, [some (vr 0), some (vi (i : Int)), some (vi (k : Int)), some (vi 5)], []) (MS I J cc ss) _
  refine ev_n (fr' := (23, [some (vr 0), some (vi (i : Int)), some (vi (k : Int)), some (vi 5)], [vi (k : Int), vi (i : Int), vr 126, vr 0])) (S' := MS I J cc ss) 5 rfl ?_
  refine ev_cp rfl rfl rfl ⟨Nat.le_of_ble_eq_true rfl, Nat.le_of_ble_eq_true rfl⟩ (sp_drawAt_126 X _ _ _ _ i k hS hP hI hwp hwi hws (by omega) (by omega)) (fun I1 J q2 => ?_)
  obtain ⟨rfl, rI1, hD126⟩ := q2
  show Ev X k_X8_measure (26, [some (vr 0), some (vi (i : Int)), some (vi (k : Int)), some (vi 5)], []) (MS I1 J cc ss) _
  have hO := hO.trans (rI1.scr (by decide))
  have hS := onlyD.S rI1 (by decide) (by decide) hS
  have hP := onlyD.P rI1 (by decide) (by decide) hP
  have hI := onlyD.I rI1 (by decide) (by decide) hI
  refine ev_n (fr' := (120, [some (vr 0), some (vi (i : Int)), some (vi (k : Int)), some (vi 5)], [vr 126])) (S' := MS I1 J cc ss) 4 rfl ?_
  refine ev_cv rfl rfl rfl ⟨Nat.le_of_ble_eq_true rfl, Nat.le_of_ble_eq_true rfl⟩ (sp_firstRow X _ _ _ _ hD126) ?_
  show Ev X k_X8_measure (123, [some (vr 0), some (vi (i : Int)), some (vi (k : Int)), some (vi 5)], [vi (firstF (rowB (icF g i (g (2 * k + 1)) (g (2 * k + 2)))))]) (MS I1 J cc ss) _
  refine ev_r rfl rfl rfl ?_
  exact ⟨_, _, rfl, rfl, rfl, hO⟩
theorem pb_measure_6 (X : AX) (I J : Nat → Nat → Int) (cc ss : Nat) {g : F1} (i k : Nat) (hS : SRep I 1 g) (hP : PRep I J 5 g) (hI : IRep I J 9 g) (hws : WS g) (hwp : WP g) (hwi : WI g) (hi : (i : Int) < g 308) (hk : (k : Int) < g 0) : Ev X k_X8_measure (0, [some (vr 0), some (vi (i : Int)), some (vi (k : Int)), some (vi 6)], []) (MS I J cc ss) (PV cc ss (some (vi (lastF (colB (icF g i (g (2 * k + 1)) (g (2 * k + 2))))))) (fun I' J' => J' = J ∧ scrC I I')) := by
  have hO := scrC.refl I
  have hr := hws.2.2.1 k hk
  have hr4 : 4 ≤ g (2 * k + 1) ∧ g (2 * k + 1) ≤ 32 := by omega
  refine ev_n (fr' := (3, [some (vr 0), some (vi (i : Int)), some (vi (k : Int)), some (vi 6)], [vi (k : Int), vi (i : Int), vr 0])) (S' := MS I J cc ss) 3 rfl ?_
  refine ev_cv rfl rfl rfl ⟨Nat.le_of_ble_eq_true rfl, Nat.le_of_ble_eq_true rfl⟩ (sp_reqDr1 X _ _ _ _ i k hS hP hI hws hwp hwi (by omega) (by omega)) ?_
  show Ev X k_X8_measure (6, [some (vr 0), some (vi (i : Int)), some (vi (k : Int)), some (vi 6)], []) (MS I J cc ss) _
  refine ev_n (fr' := (10, [some (vr 0), some (vi (i : Int)), some (vi (k : Int)), some (vi 6)], [vi 7, vi 0, vi 6])) (S' := MS I J cc ss) 3 rfl ?_
  refine ev_cv rfl rfl rfl ⟨Nat.le_of_ble_eq_true rfl, Nat.le_of_ble_eq_true rfl⟩ (sp_within X _ 6 0 7 ) ?_
  show Ev X k_X8_measure (13, [some (vr 0), some (vi (i : Int)), some (vi (k : Int)), some (vi 6)], [vi (if 0 ≤ 6 ∧ 6 ≤ 7 then 1 else 0)]) (MS I J cc ss) _
  refine ev_s1 _ (by omega) ?_
  show Ev X k_X8_measure (13, [some (vr 0), some (vi (i : Int)), some (vi (k : Int)), some (vi 6)], [vi 1]) (MS I J cc ss) _
  refine ev_cv rfl rfl rfl ⟨Nat.le_of_ble_eq_true rfl, Nat.le_of_ble_eq_true rfl⟩ (sp_reqA1 X _) ?_
  show Ev X k_X8_measure (16, [some (vr 0), some (vi (i : Int)), some (vi (k : Int)), some (vi 6)], []) (MS I J cc ss) _
  refine ev_n (fr' := (23, [some (vr 0), some (vi (i : Int)), some (vi (k : Int)), some (vi 6)], [vi (k : Int), vi (i : Int), vr 126, vr 0])) (S' := MS I J cc ss) 5 rfl ?_
  refine ev_cp rfl rfl rfl ⟨Nat.le_of_ble_eq_true rfl, Nat.le_of_ble_eq_true rfl⟩ (sp_drawAt_126 X _ _ _ _ i k hS hP hI hwp hwi hws (by omega) (by omega)) (fun I1 J q2 => ?_)
  obtain ⟨rfl, rI1, hD126⟩ := q2
  show Ev X k_X8_measure (26, [some (vr 0), some (vi (i : Int)), some (vi (k : Int)), some (vi 6)], []) (MS I1 J cc ss) _
  have hO := hO.trans (rI1.scr (by decide))
  have hS := onlyD.S rI1 (by decide) (by decide) hS
  have hP := onlyD.P rI1 (by decide) (by decide) hP
  have hI := onlyD.I rI1 (by decide) (by decide) hI
  refine ev_n (fr' := (128, [some (vr 0), some (vi (i : Int)), some (vi (k : Int)), some (vi 6)], [vr 126])) (S' := MS I1 J cc ss) 4 rfl ?_
  refine ev_cv rfl rfl rfl ⟨Nat.le_of_ble_eq_true rfl, Nat.le_of_ble_eq_true rfl⟩ (sp_lastColumn X _ _ _ _ hD126) ?_
  show Ev X k_X8_measure (131, [some (vr 0), some (vi (i : Int)), some (vi (k : Int)), some (vi 6)], [vi (lastF (colB (icF g i (g (2 * k + 1)) (g (2 * k + 2)))))]) (MS I1 J cc ss) _
  refine ev_r rfl rfl rfl ?_
  exact ⟨_, _, rfl, rfl, rfl, hO⟩
theorem pb_measure_7 (X : AX) (I J : Nat → Nat → Int) (cc ss : Nat) {g : F1} (i k : Nat) (hS : SRep I 1 g) (hP : PRep I J 5 g) (hI : IRep I J 9 g) (hws : WS g) (hwp : WP g) (hwi : WI g) (hi : (i : Int) < g 308) (hk : (k : Int) < g 0) : Ev X k_X8_measure (0, [some (vr 0), some (vi (i : Int)), some (vi (k : Int)), some (vi 7)], []) (MS I J cc ss) (PV cc ss (some (vi (lastF (rowB (icF g i (g (2 * k + 1)) (g (2 * k + 2))))))) (fun I' J' => J' = J ∧ scrC I I')) := by
  have hO := scrC.refl I
  have hr := hws.2.2.1 k hk
  have hr4 : 4 ≤ g (2 * k + 1) ∧ g (2 * k + 1) ≤ 32 := by omega
  refine ev_n (fr' := (3, [some (vr 0), some (vi (i : Int)), some (vi (k : Int)), some (vi 7)], [vi (k : Int), vi (i : Int), vr 0])) (S' := MS I J cc ss) 3 rfl ?_
  refine ev_cv rfl rfl rfl ⟨Nat.le_of_ble_eq_true rfl, Nat.le_of_ble_eq_true rfl⟩ (sp_reqDr1 X _ _ _ _ i k hS hP hI hws hwp hwi (by omega) (by omega)) ?_
  show Ev X k_X8_measure (6, [some (vr 0), some (vi (i : Int)), some (vi (k : Int)), some (vi 7)], []) (MS I J cc ss) _
  refine ev_n (fr' := (10, [some (vr 0), some (vi (i : Int)), some (vi (k : Int)), some (vi 7)], [vi 7, vi 0, vi 7])) (S' := MS I J cc ss) 3 rfl ?_
  refine ev_cv rfl rfl rfl ⟨Nat.le_of_ble_eq_true rfl, Nat.le_of_ble_eq_true rfl⟩ (sp_within X _ 7 0 7 ) ?_
  show Ev X k_X8_measure (13, [some (vr 0), some (vi (i : Int)), some (vi (k : Int)), some (vi 7)], [vi (if 0 ≤ 7 ∧ 7 ≤ 7 then 1 else 0)]) (MS I J cc ss) _
  refine ev_s1 _ (by omega) ?_
  show Ev X k_X8_measure (13, [some (vr 0), some (vi (i : Int)), some (vi (k : Int)), some (vi 7)], [vi 1]) (MS I J cc ss) _
  refine ev_cv rfl rfl rfl ⟨Nat.le_of_ble_eq_true rfl, Nat.le_of_ble_eq_true rfl⟩ (sp_reqA1 X _) ?_
  show Ev X k_X8_measure (16, [some (vr 0), some (vi (i : Int)), some (vi (k : Int)), some (vi 7)], []) (MS I J cc ss) _
  refine ev_n (fr' := (23, [some (vr 0), some (vi (i : Int)), some (vi (k : Int)), some (vi 7)], [vi (k : Int), vi (i : Int), vr 126, vr 0])) (S' := MS I J cc ss) 5 rfl ?_
  refine ev_cp rfl rfl rfl ⟨Nat.le_of_ble_eq_true rfl, Nat.le_of_ble_eq_true rfl⟩ (sp_drawAt_126 X _ _ _ _ i k hS hP hI hwp hwi hws (by omega) (by omega)) (fun I1 J q2 => ?_)
  obtain ⟨rfl, rI1, hD126⟩ := q2
  show Ev X k_X8_measure (26, [some (vr 0), some (vi (i : Int)), some (vi (k : Int)), some (vi 7)], []) (MS I1 J cc ss) _
  have hO := hO.trans (rI1.scr (by decide))
  have hS := onlyD.S rI1 (by decide) (by decide) hS
  have hP := onlyD.P rI1 (by decide) (by decide) hP
  have hI := onlyD.I rI1 (by decide) (by decide) hI
  refine ev_n (fr' := (136, [some (vr 0), some (vi (i : Int)), some (vi (k : Int)), some (vi 7)], [vr 126])) (S' := MS I1 J cc ss) 4 rfl ?_
  refine ev_cv rfl rfl rfl ⟨Nat.le_of_ble_eq_true rfl, Nat.le_of_ble_eq_true rfl⟩ (sp_lastRow X _ _ _ _ hD126) ?_
  show Ev X k_X8_measure (139, [some (vr 0), some (vi (i : Int)), some (vi (k : Int)), some (vi 7)], [vi (lastF (rowB (icF g i (g (2 * k + 1)) (g (2 * k + 2)))))]) (MS I1 J cc ss) _
  refine ev_r rfl rfl rfl ?_
  exact ⟨_, _, rfl, rfl, rfl, hO⟩
theorem pb_measure_2 (X : AX) (I J : Nat → Nat → Int) (cc ss : Nat) {g : F1} (i k n : Nat) (hS : SRep I 1 g) (hP : PRep I J 5 g) (hI : IRep I J 9 g) (hws : WS g) (hwp : WP g) (hwi : WI g) (hi : (i : Int) < g 308) (hk : (k : Int) < g 0) (hn : g (2 * k + 1) = (n : Int)) : Ev X k_X8_measure (0, [some (vr 0), some (vi (i : Int)), some (vi (k : Int)), some (vi 2)], []) (MS I J cc ss) (PV cc ss (some (vi (grpF n true false (icF g i (n : Int) (g (2 * k + 2)))))) (fun I' J' => J' = J ∧ scrC I I')) := by
  have hO := scrC.refl I
  have hr := hws.2.2.1 k hk
  refine ev_n (fr' := (3, [some (vr 0), some (vi (i : Int)), some (vi (k : Int)), some (vi 2)], [vi (k : Int), vi (i : Int), vr 0])) (S' := MS I J cc ss) 3 rfl ?_
  refine ev_cv rfl rfl rfl ⟨Nat.le_of_ble_eq_true rfl, Nat.le_of_ble_eq_true rfl⟩ (sp_reqDr1 X _ _ _ _ i k hS hP hI hws hwp hwi (by omega) (by omega)) ?_
  show Ev X k_X8_measure (6, [some (vr 0), some (vi (i : Int)), some (vi (k : Int)), some (vi 2)], []) (MS I J cc ss) _
  refine ev_n (fr' := (10, [some (vr 0), some (vi (i : Int)), some (vi (k : Int)), some (vi 2)], [vi 7, vi 0, vi 2])) (S' := MS I J cc ss) 3 rfl ?_
  refine ev_cv rfl rfl rfl ⟨Nat.le_of_ble_eq_true rfl, Nat.le_of_ble_eq_true rfl⟩ (sp_within X _ 2 0 7 ) ?_
  show Ev X k_X8_measure (13, [some (vr 0), some (vi (i : Int)), some (vi (k : Int)), some (vi 2)], [vi (if 0 ≤ 2 ∧ 2 ≤ 7 then 1 else 0)]) (MS I J cc ss) _
  refine ev_s1 _ (by omega) ?_
  show Ev X k_X8_measure (13, [some (vr 0), some (vi (i : Int)), some (vi (k : Int)), some (vi 2)], [vi 1]) (MS I J cc ss) _
  refine ev_cv rfl rfl rfl ⟨Nat.le_of_ble_eq_true rfl, Nat.le_of_ble_eq_true rfl⟩ (sp_reqA1 X _) ?_
  show Ev X k_X8_measure (16, [some (vr 0), some (vi (i : Int)), some (vi (k : Int)), some (vi 2)], []) (MS I J cc ss) _
  refine ev_n (fr' := (23, [some (vr 0), some (vi (i : Int)), some (vi (k : Int)), some (vi 2)], [vi (k : Int), vi (i : Int), vr 126, vr 0])) (S' := MS I J cc ss) 5 rfl ?_
  refine ev_cp rfl rfl rfl ⟨Nat.le_of_ble_eq_true rfl, Nat.le_of_ble_eq_true rfl⟩ (sp_drawAt_126 X _ _ _ _ i k hS hP hI hwp hwi hws (by omega) (by omega)) (fun I1 J q2 => ?_)
  obtain ⟨rfl, rI1, hD126⟩ := q2
  show Ev X k_X8_measure (26, [some (vr 0), some (vi (i : Int)), some (vi (k : Int)), some (vi 2)], []) (MS I1 J cc ss) _
  have hO := hO.trans (rI1.scr (by decide))
  have hS := onlyD.S rI1 (by decide) (by decide) hS
  have hP := onlyD.P rI1 (by decide) (by decide) hP
  have hI := onlyD.I rI1 (by decide) (by decide) hI
  refine ev_n (fr' := (92, [some (vr 0), some (vi (i : Int)), some (vi (k : Int)), some (vi 2)], [vr 126, vr 132])) (S' := MS I1 J cc ss) 6 rfl ?_
  rw [hn] at hD126
  refine ev_cz rfl rfl rfl ⟨Nat.le_of_ble_eq_true rfl, Nat.le_of_ble_eq_true rfl⟩ (sp_pieces X _ _ _ _ hD126 (by omega) (fun y x q => by have := iconB_sup q; omega)) (fun z9 I3 J q4 => ?_)
  obtain ⟨rfl, rI3, hz9⟩ := q4
  show Ev X k_X8_measure (95, [some (vr 0), some (vi (i : Int)), some (vi (k : Int)), some (vi 2)], [vi z9]) (MS I3 J cc ss) _
  have hO := hO.trans rI3.scr
  refine ev_r rfl rfl rfl ?_
  exact ⟨_, _, rfl, by rw [hz9], rfl, hO⟩
theorem pb_measure_3 (X : AX) (I J : Nat → Nat → Int) (cc ss : Nat) {g : F1} (i k n : Nat) (hS : SRep I 1 g) (hP : PRep I J 5 g) (hI : IRep I J 9 g) (hws : WS g) (hwp : WP g) (hwi : WI g) (hi : (i : Int) < g 308) (hk : (k : Int) < g 0) (hn : g (2 * k + 1) = (n : Int)) : Ev X k_X8_measure (0, [some (vr 0), some (vi (i : Int)), some (vi (k : Int)), some (vi 3)], []) (MS I J cc ss) (PV cc ss (some (vi (grpF n false true (holB (icF g i (n : Int) (g (2 * k + 2))) n)))) (fun I' J' => J' = J ∧ scrC I I')) := by
  have hO := scrC.refl I
  have hr := hws.2.2.1 k hk
  refine ev_n (fr' := (3, [some (vr 0), some (vi (i : Int)), some (vi (k : Int)), some (vi 3)], [vi (k : Int), vi (i : Int), vr 0])) (S' := MS I J cc ss) 3 rfl ?_
  refine ev_cv rfl rfl rfl ⟨Nat.le_of_ble_eq_true rfl, Nat.le_of_ble_eq_true rfl⟩ (sp_reqDr1 X _ _ _ _ i k hS hP hI hws hwp hwi (by omega) (by omega)) ?_
  show Ev X k_X8_measure (6, [some (vr 0), some (vi (i : Int)), some (vi (k : Int)), some (vi 3)], []) (MS I J cc ss) _
  refine ev_n (fr' := (10, [some (vr 0), some (vi (i : Int)), some (vi (k : Int)), some (vi 3)], [vi 7, vi 0, vi 3])) (S' := MS I J cc ss) 3 rfl ?_
  refine ev_cv rfl rfl rfl ⟨Nat.le_of_ble_eq_true rfl, Nat.le_of_ble_eq_true rfl⟩ (sp_within X _ 3 0 7 ) ?_
  show Ev X k_X8_measure (13, [some (vr 0), some (vi (i : Int)), some (vi (k : Int)), some (vi 3)], [vi (if 0 ≤ 3 ∧ 3 ≤ 7 then 1 else 0)]) (MS I J cc ss) _
  refine ev_s1 _ (by omega) ?_
  show Ev X k_X8_measure (13, [some (vr 0), some (vi (i : Int)), some (vi (k : Int)), some (vi 3)], [vi 1]) (MS I J cc ss) _
  refine ev_cv rfl rfl rfl ⟨Nat.le_of_ble_eq_true rfl, Nat.le_of_ble_eq_true rfl⟩ (sp_reqA1 X _) ?_
  show Ev X k_X8_measure (16, [some (vr 0), some (vi (i : Int)), some (vi (k : Int)), some (vi 3)], []) (MS I J cc ss) _
  refine ev_n (fr' := (23, [some (vr 0), some (vi (i : Int)), some (vi (k : Int)), some (vi 3)], [vi (k : Int), vi (i : Int), vr 126, vr 0])) (S' := MS I J cc ss) 5 rfl ?_
  refine ev_cp rfl rfl rfl ⟨Nat.le_of_ble_eq_true rfl, Nat.le_of_ble_eq_true rfl⟩ (sp_drawAt_126 X _ _ _ _ i k hS hP hI hwp hwi hws (by omega) (by omega)) (fun I1 J q2 => ?_)
  obtain ⟨rfl, rI1, hD126⟩ := q2
  show Ev X k_X8_measure (26, [some (vr 0), some (vi (i : Int)), some (vi (k : Int)), some (vi 3)], []) (MS I1 J cc ss) _
  have hO := hO.trans (rI1.scr (by decide))
  have hS := onlyD.S rI1 (by decide) (by decide) hS
  have hP := onlyD.P rI1 (by decide) (by decide) hP
  have hI := onlyD.I rI1 (by decide) (by decide) hI
  refine ev_n (fr' := (104, [some (vr 0), some (vi (i : Int)), some (vi (k : Int)), some (vi 3)], [vr 126, vr 132])) (S' := MS I1 J cc ss) 6 rfl ?_
  rw [hn] at hD126
  refine ev_cz rfl rfl rfl ⟨Nat.le_of_ble_eq_true rfl, Nat.le_of_ble_eq_true rfl⟩ (sp_holes X _ _ _ _ hD126 (by omega) (fun y x q => by have := iconB_sup q; omega)) (fun z9 I3 J q4 => ?_)
  obtain ⟨rfl, rI3, hz9⟩ := q4
  show Ev X k_X8_measure (107, [some (vr 0), some (vi (i : Int)), some (vi (k : Int)), some (vi 3)], [vi z9]) (MS I3 J cc ss) _
  have hO := hO.trans rI3.scr
  refine ev_r rfl rfl rfl ?_
  exact ⟨_, _, rfl, by rw [hz9], rfl, hO⟩
theorem pb_isMirrored_x (X : AX) (I J : Nat → Nat → Int) (cc ss : Nat) {g : F1} (y z w : Int) (hS : SRep I 1 g) (hP : PRep I J 5 g) (hI : IRep I J 9 g) (hws : WS g) (hwp : WP g) (hwi : WI g) (h : ¬ ((0 ≤ y ∧ y < g 308) ∧ (0 ≤ z ∧ z < g 0))) : Ev X k_X8_isMirrored (0, [some (vr 0), some (vi y), some (vi z), some (vi w)], []) (MS I J cc ss) (fun o T => o = .inr 2 ∧ T = MS I J (cc + 1) (ss + 6)) := by
  refine ev_n (fr' := (3, [some (vr 0), some (vi y), some (vi z), some (vi w)], [vi z, vi y, vr 0])) (S' := MS I J cc ss) 3 rfl ?_
  refine ev_cx rfl rfl rfl ⟨Nat.le_of_ble_eq_true rfl, Nat.le_of_ble_eq_true rfl⟩ (sp_reqDr0 X _ _ _ _ y z hS hP hI hws hwp hwi h) rfl ?_
  exact ⟨rfl, rfl⟩
theorem pb_isMirrored_1 (X : AX) (I J : Nat → Nat → Int) (cc ss : Nat) {g : F1} (i k : Nat) (hS : SRep I 1 g) (hP : PRep I J 5 g) (hI : IRep I J 9 g) (hws : WS g) (hwp : WP g) (hwi : WI g) (hi : (i : Int) < g 308) (hk : (k : Int) < g 0) : Ev X k_X8_isMirrored (0, [some (vr 0), some (vi (i : Int)), some (vi (k : Int)), some (vi 1)], []) (MS I J cc ss) (PV cc ss (some (vi (if mirB (icF g i (g (2 * k + 1)) (g (2 * k + 2))) (g (2 * k + 1)).toNat true = true then 1 else 0))) (fun I' J' => J' = J ∧ scrC I I')) := by
  have hO := scrC.refl I
  have hr := hws.2.2.1 k hk
  have hr4 : 4 ≤ g (2 * k + 1) ∧ g (2 * k + 1) ≤ 32 := by omega
  refine ev_n (fr' := (3, [some (vr 0), some (vi (i : Int)), some (vi (k : Int)), some (vi 1)], [vi (k : Int), vi (i : Int), vr 0])) (S' := MS I J cc ss) 3 rfl ?_
  refine ev_cv rfl rfl rfl ⟨Nat.le_of_ble_eq_true rfl, Nat.le_of_ble_eq_true rfl⟩ (sp_reqDr1 X _ _ _ _ i k hS hP hI hws hwp hwi (by omega) (by omega)) ?_
  show Ev X k_X8_isMirrored (6, [some (vr 0), some (vi (i : Int)), some (vi (k : Int)), some (vi 1)], []) (MS I J cc ss) _
  refine ev_n (fr' := (13, [some (vr 0), some (vi (i : Int)), some (vi (k : Int)), some (vi 1)], [vi (k : Int), vi (i : Int), vr 126, vr 0])) (S' := MS I J cc ss) 5 rfl ?_
  refine ev_cp rfl rfl rfl ⟨Nat.le_of_ble_eq_true rfl, Nat.le_of_ble_eq_true rfl⟩ (sp_drawAt_126 X _ _ _ _ i k hS hP hI hwp hwi hws (by omega) (by omega)) (fun I1 J q2 => ?_)
  obtain ⟨rfl, rI1, hD126⟩ := q2
  show Ev X k_X8_isMirrored (16, [some (vr 0), some (vi (i : Int)), some (vi (k : Int)), some (vi 1)], []) (MS I1 J cc ss) _
  have hO := hO.trans (rI1.scr (by decide))
  have hS := onlyD.S rI1 (by decide) (by decide) hS
  have hP := onlyD.P rI1 (by decide) (by decide) hP
  have hI := onlyD.I rI1 (by decide) (by decide) hI
  refine ev_n (fr' := (24, [some (vr 0), some (vi (i : Int)), some (vi (k : Int)), some (vi 1)], [vr 126])) (S' := MS I1 J cc ss) 4 rfl ?_
  refine ev_cv rfl rfl rfl ⟨Nat.le_of_ble_eq_true rfl, Nat.le_of_ble_eq_true rfl⟩ (sp_upDown X _ _ _ _ hD126 hr4 (fun y x q => by
    rw [← Bool.not_eq_true]; intro q2; have := iconB_sup q2; omega)) ?_
  show Ev X k_X8_isMirrored (27, [some (vr 0), some (vi (i : Int)), some (vi (k : Int)), some (vi 1)], [vi (if mirB (icF g i (g (2 * k + 1)) (g (2 * k + 2))) (g (2 * k + 1)).toNat true = true then 1 else 0)]) (MS I1 J cc ss) _
  refine ev_n (fr' := (37, [some (vr 0), some (vi (i : Int)), some (vi (k : Int)), some (vi 1)], [vi (if mirB (icF g i (g (2 * k + 1)) (g (2 * k + 2))) (g (2 * k + 1)).toNat true = true then 1 else 0)])) (S' := MS I1 J cc ss) 1 rfl ?_
  refine ev_r rfl rfl (rt_b _) ?_
  exact ⟨_, _, rfl, rfl, rfl, hO⟩
theorem pb_isMirrored_0 (X : AX) (I J : Nat → Nat → Int) (cc ss : Nat) {g : F1} (i k : Nat) (hS : SRep I 1 g) (hP : PRep I J 5 g) (hI : IRep I J 9 g) (hws : WS g) (hwp : WP g) (hwi : WI g) (hi : (i : Int) < g 308) (hk : (k : Int) < g 0) : Ev X k_X8_isMirrored (0, [some (vr 0), some (vi (i : Int)), some (vi (k : Int)), some (vi 0)], []) (MS I J cc ss) (PV cc ss (some (vi (if mirB (icF g i (g (2 * k + 1)) (g (2 * k + 2))) (g (2 * k + 1)).toNat false = true then 1 else 0))) (fun I' J' => J' = J ∧ scrC I I')) := by
  have hO := scrC.refl I
  have hr := hws.2.2.1 k hk
  have hr4 : 4 ≤ g (2 * k + 1) ∧ g (2 * k + 1) ≤ 32 := by omega
  refine ev_n (fr' := (3, [some (vr 0), some (vi (i : Int)), some (vi (k : Int)), some (vi 0)], [vi (k : Int), vi (i : Int), vr 0])) (S' := MS I J cc ss) 3 rfl ?_
  refine ev_cv rfl rfl rfl ⟨Nat.le_of_ble_eq_true rfl, Nat.le_of_ble_eq_true rfl⟩ (sp_reqDr1 X _ _ _ _ i k hS hP hI hws hwp hwi (by omega) (by omega)) ?_
  show Ev X k_X8_isMirrored (6, [some (vr 0), some (vi (i : Int)), some (vi (k : Int)), some (vi 0)], []) (MS I J cc ss) _
  refine ev_n (fr' := (13, [some (vr 0), some (vi (i : Int)), some (vi (k : Int)), some (vi 0)], [vi (k : Int), vi (i : Int), vr 126, vr 0])) (S' := MS I J cc ss) 5 rfl ?_
  refine ev_cp rfl rfl rfl ⟨Nat.le_of_ble_eq_true rfl, Nat.le_of_ble_eq_true rfl⟩ (sp_drawAt_126 X _ _ _ _ i k hS hP hI hwp hwi hws (by omega) (by omega)) (fun I1 J q2 => ?_)
  obtain ⟨rfl, rI1, hD126⟩ := q2
  show Ev X k_X8_isMirrored (16, [some (vr 0), some (vi (i : Int)), some (vi (k : Int)), some (vi 0)], []) (MS I1 J cc ss) _
  have hO := hO.trans (rI1.scr (by decide))
  have hS := onlyD.S rI1 (by decide) (by decide) hS
  have hP := onlyD.P rI1 (by decide) (by decide) hP
  have hI := onlyD.I rI1 (by decide) (by decide) hI
  refine ev_n (fr' := (34, [some (vr 0), some (vi (i : Int)), some (vi (k : Int)), some (vi 0)], [vr 126])) (S' := MS I1 J cc ss) 4 rfl ?_
  refine ev_cv rfl rfl rfl ⟨Nat.le_of_ble_eq_true rfl, Nat.le_of_ble_eq_true rfl⟩ (sp_leftRight X _ _ _ _ hD126 hr4) ?_
  show Ev X k_X8_isMirrored (37, [some (vr 0), some (vi (i : Int)), some (vi (k : Int)), some (vi 0)], [vi (if mirB (icF g i (g (2 * k + 1)) (g (2 * k + 2))) (g (2 * k + 1)).toNat false = true then 1 else 0)]) (MS I1 J cc ss) _
  refine ev_r rfl rfl (rt_b _) ?_
  exact ⟨_, _, rfl, rfl, rfl, hO⟩
theorem pb_difference_x (X : AX) (I J : Nat → Nat → Int) (cc ss : Nat) {g : F1} (y t z : Int) (hS : SRep I 1 g) (hP : PRep I J 5 g) (hI : IRep I J 9 g) (hws : WS g) (hwp : WP g) (hwi : WI g) (h : ¬ (0 ≤ y ∧ y < g 308)) : Ev X k_X8_difference (0, [some (vr 0), some (vi y), some (vi t), some (vi z)], []) (MS I J cc ss) (fun o T => o = .inr 2 ∧ T = MS I J (cc + 1) (ss + 6)) := by
  refine ev_n (fr' := (8, [some (vr 0), some (vi y), some (vi t), some (vi z)], [vi y, vr 9])) (S' := MS I J cc ss) 4 rfl ?_
  refine ev_cv rfl rfl rfl ⟨Nat.le_of_ble_eq_true rfl, Nat.le_of_ble_eq_true rfl⟩ (sp_hasRow_9 X _ _ _ _ y hI) ?_
  show Ev X k_X8_difference (11, [some (vr 0), some (vi y), some (vi t), some (vi z)], [vi (if 0 ≤ y ∧ y < g 308 then 1 else 0)]) (MS I J cc ss) _
  refine ev_beq _ rfl (by decide) (fun (g1 : ¬ (0 ≤ y ∧ y < g 308)) => ?_) (fun (g1 : 0 ≤ y ∧ y < g 308) => False.elim ((h) g1))
  show Ev X k_X8_difference (32, [some (vr 0), some (vi y), some (vi t), some (vi z)], []) (MS I J cc ss) _
  refine ev_n (fr' := (33, [some (vr 0), some (vi y), some (vi t), some (vi z)], [vi 0])) (S' := MS I J cc ss) 1 rfl ?_
  refine ev_cx rfl rfl rfl ⟨Nat.le_of_ble_eq_true rfl, Nat.le_of_ble_eq_true rfl⟩ (sp_reqI0 X _ _ _ _) rfl ?_
  exact ⟨rfl, rfl⟩
theorem pb_difference_y (X : AX) (I J : Nat → Nat → Int) (cc ss : Nat) {g : F1} (i : Nat) (t z : Int) (hS : SRep I 1 g) (hP : PRep I J 5 g) (hI : IRep I J 9 g) (hws : WS g) (hwp : WP g) (hwi : WI g) (hi : (i : Int) < g 308) (h : ¬ (0 ≤ t ∧ t < g 308)) : Ev X k_X8_difference (0, [some (vr 0), some (vi (i : Int)), some (vi t), some (vi z)], []) (MS I J cc ss) (fun o T => o = .inr 2 ∧ T = MS I J (cc + 1) (ss + 6)) := by
  refine ev_n (fr' := (8, [some (vr 0), some (vi (i : Int)), some (vi t), some (vi z)], [vi (i : Int), vr 9])) (S' := MS I J cc ss) 4 rfl ?_
  refine ev_cv rfl rfl rfl ⟨Nat.le_of_ble_eq_true rfl, Nat.le_of_ble_eq_true rfl⟩ (sp_hasRow_9 X _ _ _ _ (i : Int) hI) ?_
  show Ev X k_X8_difference (11, [some (vr 0), some (vi (i : Int)), some (vi t), some (vi z)], [vi (if 0 ≤ (i : Int) ∧ (i : Int) < g 308 then 1 else 0)]) (MS I J cc ss) _
  refine ev_beq _ rfl (by decide) (fun (g1 : ¬ (0 ≤ (i : Int) ∧ (i : Int) < g 308)) => False.elim (g1 (by omega))) (fun (g1 : 0 ≤ (i : Int) ∧ (i : Int) < g 308) => ?_)
  show Ev X k_X8_difference (14, [some (vr 0), some (vi (i : Int)), some (vi t), some (vi z)], []) (MS I J cc ss) _
  refine ev_n (fr' := (22, [some (vr 0), some (vi (i : Int)), some (vi t), some (vi z)], [vi t, vr 9])) (S' := MS I J cc ss) 4 rfl ?_
  refine ev_cv rfl rfl rfl ⟨Nat.le_of_ble_eq_true rfl, Nat.le_of_ble_eq_true rfl⟩ (sp_hasRow_9 X _ _ _ _ t hI) ?_
  show Ev X k_X8_difference (25, [some (vr 0), some (vi (i : Int)), some (vi t), some (vi z)], [vi (if 0 ≤ t ∧ t < g 308 then 1 else 0)]) (MS I J cc ss) _
  refine ev_beq _ rfl (by decide) (fun (g2 : ¬ (0 ≤ t ∧ t < g 308)) => ?_) (fun (g2 : 0 ≤ t ∧ t < g 308) => False.elim ((h) g2))
  show Ev X k_X8_difference (32, [some (vr 0), some (vi (i : Int)), some (vi t), some (vi z)], []) (MS I J cc ss) _
  refine ev_n (fr' := (33, [some (vr 0), some (vi (i : Int)), some (vi t), some (vi z)], [vi 0])) (S' := MS I J cc ss) 1 rfl ?_
  refine ev_cx rfl rfl rfl ⟨Nat.le_of_ble_eq_true rfl, Nat.le_of_ble_eq_true rfl⟩ (sp_reqI0 X _ _ _ _) rfl ?_
  exact ⟨rfl, rfl⟩
theorem pb_difference_z (X : AX) (I J : Nat → Nat → Int) (cc ss : Nat) {g : F1} (i j : Nat) (z : Int) (hS : SRep I 1 g) (hP : PRep I J 5 g) (hI : IRep I J 9 g) (hws : WS g) (hwp : WP g) (hwi : WI g) (hi : (i : Int) < g 308) (hj : (j : Int) < g 308) (h : ¬ (0 ≤ z ∧ z < g 0)) : Ev X k_X8_difference (0, [some (vr 0), some (vi (i : Int)), some (vi (j : Int)), some (vi z)], []) (MS I J cc ss) (fun o T => o = .inr 2 ∧ T = MS I J (cc + 1) (ss + 6)) := by
  refine ev_n (fr' := (8, [some (vr 0), some (vi (i : Int)), some (vi (j : Int)), some (vi z)], [vi (i : Int), vr 9])) (S' := MS I J cc ss) 4 rfl ?_
  refine ev_cv rfl rfl rfl ⟨Nat.le_of_ble_eq_true rfl, Nat.le_of_ble_eq_true rfl⟩ (sp_hasRow_9 X _ _ _ _ (i : Int) hI) ?_
  show Ev X k_X8_difference (11, [some (vr 0), some (vi (i : Int)), some (vi (j : Int)), some (vi z)], [vi (if 0 ≤ (i : Int) ∧ (i : Int) < g 308 then 1 else 0)]) (MS I J cc ss) _
  refine ev_beq _ rfl (by decide) (fun (g1 : ¬ (0 ≤ (i : Int) ∧ (i : Int) < g 308)) => False.elim (g1 (by omega))) (fun (g1 : 0 ≤ (i : Int) ∧ (i : Int) < g 308) => ?_)
  show Ev X k_X8_difference (14, [some (vr 0), some (vi (i : Int)), some (vi (j : Int)), some (vi z)], []) (MS I J cc ss) _
  refine ev_n (fr' := (22, [some (vr 0), some (vi (i : Int)), some (vi (j : Int)), some (vi z)], [vi (j : Int), vr 9])) (S' := MS I J cc ss) 4 rfl ?_
  refine ev_cv rfl rfl rfl ⟨Nat.le_of_ble_eq_true rfl, Nat.le_of_ble_eq_true rfl⟩ (sp_hasRow_9 X _ _ _ _ (j : Int) hI) ?_
  show Ev X k_X8_difference (25, [some (vr 0), some (vi (i : Int)), some (vi (j : Int)), some (vi z)], [vi (if 0 ≤ (j : Int) ∧ (j : Int) < g 308 then 1 else 0)]) (MS I J cc ss) _
  refine ev_beq _ rfl (by decide) (fun (g2 : ¬ (0 ≤ (j : Int) ∧ (j : Int) < g 308)) => False.elim (g2 (by omega))) (fun (g2 : 0 ≤ (j : Int) ∧ (j : Int) < g 308) => ?_)
  show Ev X k_X8_difference (28, [some (vr 0), some (vi (i : Int)), some (vi (j : Int)), some (vi z)], []) (MS I J cc ss) _
  refine ev_n (fr' := (33, [some (vr 0), some (vi (i : Int)), some (vi (j : Int)), some (vi z)], [vi 1])) (S' := MS I J cc ss) 2 rfl ?_
  refine ev_cv rfl rfl rfl ⟨Nat.le_of_ble_eq_true rfl, Nat.le_of_ble_eq_true rfl⟩ (sp_reqI1 X _) ?_
  show Ev X k_X8_difference (36, [some (vr 0), some (vi (i : Int)), some (vi (j : Int)), some (vi z)], []) (MS I J cc ss) _
  refine ev_n (fr' := (44, [some (vr 0), some (vi (i : Int)), some (vi (j : Int)), some (vi z)], [vi z, vr 2])) (S' := MS I J cc ss) 4 rfl ?_
  refine ev_cv rfl rfl rfl ⟨Nat.le_of_ble_eq_true rfl, Nat.le_of_ble_eq_true rfl⟩ (sp_has_2 X _ _ _ _ z hS) ?_
  show Ev X k_X8_difference (47, [some (vr 0), some (vi (i : Int)), some (vi (j : Int)), some (vi z)], [vi (if 0 ≤ z ∧ z < g 0 then 1 else 0)]) (MS I J cc ss) _
  refine ev_s0 _ (h) ?_
  show Ev X k_X8_difference (47, [some (vr 0), some (vi (i : Int)), some (vi (j : Int)), some (vi z)], [vi 0]) (MS I J cc ss) _
  refine ev_cx rfl rfl rfl ⟨Nat.le_of_ble_eq_true rfl, Nat.le_of_ble_eq_true rfl⟩ (sp_reqI0 X _ _ _ _) rfl ?_
  exact ⟨rfl, rfl⟩
theorem pb_difference (X : AX) (I J : Nat → Nat → Int) (cc ss : Nat) {g : F1} (i j k : Nat) (hS : SRep I 1 g) (hP : PRep I J 5 g) (hI : IRep I J 9 g) (hws : WS g) (hwp : WP g) (hwi : WI g) (hi : (i : Int) < g 308) (hj : (j : Int) < g 308) (hk : (k : Int) < g 0) : Ev X k_X8_difference (0, [some (vr 0), some (vi (i : Int)), some (vi (j : Int)), some (vi (k : Int))], []) (MS I J cc ss) (PV cc ss (some (vi (cntB (fun y x => (icF g i (g (2 * k + 1)) (g (2 * k + 2))) y x ^^ (icF g j (g (2 * k + 1)) (g (2 * k + 2))) y x)))) (fun I' J' => J' = J ∧ scrC I I')) := by
  have hO := scrC.refl I
  have hr := hws.2.2.1 k hk
  refine ev_n (fr' := (8, [some (vr 0), some (vi (i : Int)), some (vi (j : Int)), some (vi (k : Int))], [vi (i : Int), vr 9])) (S' := MS I J cc ss) 4 rfl ?_
  refine ev_cv rfl rfl rfl ⟨Nat.le_of_ble_eq_true rfl, Nat.le_of_ble_eq_true rfl⟩ (sp_hasRow_9 X _ _ _ _ (i : Int) hI) ?_
  show Ev X k_X8_difference (11, [some (vr 0), some (vi (i : Int)), some (vi (j : Int)), some (vi (k : Int))], [vi (if 0 ≤ (i : Int) ∧ (i : Int) < g 308 then 1 else 0)]) (MS I J cc ss) _
  refine ev_beq _ rfl (by decide) (fun (g1 : ¬ (0 ≤ (i : Int) ∧ (i : Int) < g 308)) => False.elim (g1 (by omega))) (fun (g1 : 0 ≤ (i : Int) ∧ (i : Int) < g 308) => ?_)
  show Ev X k_X8_difference (14, [some (vr 0), some (vi (i : Int)), some (vi (j : Int)), some (vi (k : Int))], []) (MS I J cc ss) _
  refine ev_n (fr' := (22, [some (vr 0), some (vi (i : Int)), some (vi (j : Int)), some (vi (k : Int))], [vi (j : Int), vr 9])) (S' := MS I J cc ss) 4 rfl ?_
  refine ev_cv rfl rfl rfl ⟨Nat.le_of_ble_eq_true rfl, Nat.le_of_ble_eq_true rfl⟩ (sp_hasRow_9 X _ _ _ _ (j : Int) hI) ?_
  show Ev X k_X8_difference (25, [some (vr 0), some (vi (i : Int)), some (vi (j : Int)), some (vi (k : Int))], [vi (if 0 ≤ (j : Int) ∧ (j : Int) < g 308 then 1 else 0)]) (MS I J cc ss) _
  refine ev_beq _ rfl (by decide) (fun (g2 : ¬ (0 ≤ (j : Int) ∧ (j : Int) < g 308)) => False.elim (g2 (by omega))) (fun (g2 : 0 ≤ (j : Int) ∧ (j : Int) < g 308) => ?_)
  show Ev X k_X8_difference (28, [some (vr 0), some (vi (i : Int)), some (vi (j : Int)), some (vi (k : Int))], []) (MS I J cc ss) _
  refine ev_n (fr' := (33, [some (vr 0), some (vi (i : Int)), some (vi (j : Int)), some (vi (k : Int))], [vi 1])) (S' := MS I J cc ss) 2 rfl ?_
  refine ev_cv rfl rfl rfl ⟨Nat.le_of_ble_eq_true rfl, Nat.le_of_ble_eq_true rfl⟩ (sp_reqI1 X _) ?_
  show Ev X k_X8_difference (36, [some (vr 0), some (vi (i : Int)), some (vi (j : Int)), some (vi (k : Int))], []) (MS I J cc ss) _
  refine ev_n (fr' := (44, [some (vr 0), some (vi (i : Int)), some (vi (j : Int)), some (vi (k : Int))], [vi (k : Int), vr 2])) (S' := MS I J cc ss) 4 rfl ?_
  refine ev_cv rfl rfl rfl ⟨Nat.le_of_ble_eq_true rfl, Nat.le_of_ble_eq_true rfl⟩ (sp_has_2 X _ _ _ _ (k : Int) hS) ?_
  show Ev X k_X8_difference (47, [some (vr 0), some (vi (i : Int)), some (vi (j : Int)), some (vi (k : Int))], [vi (if 0 ≤ (k : Int) ∧ (k : Int) < g 0 then 1 else 0)]) (MS I J cc ss) _
  refine ev_s1 _ (by omega) ?_
  show Ev X k_X8_difference (47, [some (vr 0), some (vi (i : Int)), some (vi (j : Int)), some (vi (k : Int))], [vi 1]) (MS I J cc ss) _
  refine ev_cv rfl rfl rfl ⟨Nat.le_of_ble_eq_true rfl, Nat.le_of_ble_eq_true rfl⟩ (sp_reqI1 X _) ?_
  show Ev X k_X8_difference (50, [some (vr 0), some (vi (i : Int)), some (vi (j : Int)), some (vi (k : Int))], []) (MS I J cc ss) _
  refine ev_n (fr' := (57, [some (vr 0), some (vi (i : Int)), some (vi (j : Int)), some (vi (k : Int))], [vi (k : Int), vi (i : Int), vr 126, vr 0])) (S' := MS I J cc ss) 5 rfl ?_
  refine ev_cp rfl rfl rfl ⟨Nat.le_of_ble_eq_true rfl, Nat.le_of_ble_eq_true rfl⟩ (sp_drawAt_126 X _ _ _ _ i k hS hP hI hwp hwi hws (by omega) (by omega)) (fun I1 J q2 => ?_)
  obtain ⟨rfl, rI1, hD126⟩ := q2
  show Ev X k_X8_difference (60, [some (vr 0), some (vi (i : Int)), some (vi (j : Int)), some (vi (k : Int))], []) (MS I1 J cc ss) _
  have hO := hO.trans (rI1.scr (by decide))
  have hS := onlyD.S rI1 (by decide) (by decide) hS
  have hP := onlyD.P rI1 (by decide) (by decide) hP
  have hI := onlyD.I rI1 (by decide) (by decide) hI
  refine ev_n (fr' := (67, [some (vr 0), some (vi (i : Int)), some (vi (j : Int)), some (vi (k : Int))], [vi (k : Int), vi (j : Int), vr 128, vr 0])) (S' := MS I1 J cc ss) 5 rfl ?_
  refine ev_cp rfl rfl rfl ⟨Nat.le_of_ble_eq_true rfl, Nat.le_of_ble_eq_true rfl⟩ (sp_drawAt_128 X _ _ _ _ j k hS hP hI hwp hwi hws (by omega) (by omega)) (fun I3 J q4 => ?_)
  obtain ⟨rfl, rI3, hD128⟩ := q4
  show Ev X k_X8_difference (70, [some (vr 0), some (vi (i : Int)), some (vi (j : Int)), some (vi (k : Int))], []) (MS I3 J cc ss) _
  have hO := hO.trans (rI3.scr (by decide))
  have hS := onlyD.S rI3 (by decide) (by decide) hS
  have hP := onlyD.P rI3 (by decide) (by decide) hP
  have hI := onlyD.I rI3 (by decide) (by decide) hI
  have hD126 : DR I3 126 (g (2 * k + 1)) (g (2 * k + 2)) (icF g i (g (2 * k + 1)) (g (2 * k + 2))) := by
    unfold DR at hD126 ⊢; rw [rI3 126 (by decide) (by decide), rI3 127 (by decide) (by decide)]; exact hD126
  refine ev_n (fr' := (78, [some (vr 0), some (vi (i : Int)), some (vi (j : Int)), some (vi (k : Int))], [vr 128, vr 126])) (S' := MS I3 J cc ss) 4 rfl ?_
  refine ev_cv rfl rfl rfl ⟨Nat.le_of_ble_eq_true rfl, Nat.le_of_ble_eq_true rfl⟩ (sp_pixelsUnlike_126 X _ _ _ _ hD126 hD128) ?_
  show Ev X k_X8_difference (81, [some (vr 0), some (vi (i : Int)), some (vi (j : Int)), some (vi (k : Int))], [vi (cntB (fun y x => (icF g i (g (2 * k + 1)) (g (2 * k + 2))) y x ^^ (icF g j (g (2 * k + 1)) (g (2 * k + 2))) y x))]) (MS I3 J cc ss) _
  refine ev_r rfl rfl rfl ?_
  exact ⟨_, _, rfl, rfl, rfl, hO⟩
theorem pb_alone_x (X : AX) (I J : Nat → Nat → Int) (cc ss : Nat) {g : F1} (y t z : Int) (hS : SRep I 1 g) (hP : PRep I J 5 g) (hI : IRep I J 9 g) (hws : WS g) (hwp : WP g) (hwi : WI g) (h : ¬ (0 ≤ y ∧ y < g 308 ∧ 0 ≤ t ∧ t < g (19 * y.toNat + 309))) : Ev X k_X8_alone (0, [some (vr 0), some (vi y), some (vi t), some (vi z)], []) (MS I J cc ss) (fun o T => o = .inr 2 ∧ T = MS I J (cc + 1) (ss + 6)) := by
  refine ev_n (fr' := (9, [some (vr 0), some (vi y), some (vi t), some (vi z)], [vi t, vi y, vr 9])) (S' := MS I J cc ss) 5 rfl ?_
  refine ev_cv rfl rfl rfl ⟨Nat.le_of_ble_eq_true rfl, Nat.le_of_ble_eq_true rfl⟩ (sp_hasItem_9 X _ _ _ _ y t hI hwi) ?_
  show Ev X k_X8_alone (12, [some (vr 0), some (vi y), some (vi t), some (vi z)], [vi (if 0 ≤ y ∧ y < g 308 ∧ 0 ≤ t ∧ t < g (19 * y.toNat + 309) then 1 else 0)]) (MS I J cc ss) _
  refine ev_beq _ rfl (by decide) (fun (g1 : ¬ (0 ≤ y ∧ y < g 308 ∧ 0 ≤ t ∧ t < g (19 * y.toNat + 309))) => ?_) (fun (g1 : 0 ≤ y ∧ y < g 308 ∧ 0 ≤ t ∧ t < g (19 * y.toNat + 309)) => False.elim ((h) g1))
  show Ev X k_X8_alone (33, [some (vr 0), some (vi y), some (vi t), some (vi z)], []) (MS I J cc ss) _
  refine ev_n (fr' := (34, [some (vr 0), some (vi y), some (vi t), some (vi z)], [vi 0])) (S' := MS I J cc ss) 1 rfl ?_
  refine ev_cx rfl rfl rfl ⟨Nat.le_of_ble_eq_true rfl, Nat.le_of_ble_eq_true rfl⟩ (sp_reqI0 X _ _ _ _) rfl ?_
  exact ⟨rfl, rfl⟩
theorem pb_alone_y (X : AX) (I J : Nat → Nat → Int) (cc ss : Nat) {g : F1} (i u : Nat) (z : Int) (hS : SRep I 1 g) (hP : PRep I J 5 g) (hI : IRep I J 9 g) (hws : WS g) (hwp : WP g) (hwi : WI g) (hi : (i : Int) < g 308) (hu : (u : Int) < g (19 * i + 309)) (h : ¬ (0 ≤ z ∧ z < g 0)) : Ev X k_X8_alone (0, [some (vr 0), some (vi (i : Int)), some (vi (u : Int)), some (vi z)], []) (MS I J cc ss) (fun o T => o = .inr 2 ∧ T = MS I J (cc + 1) (ss + 6)) := by
  refine ev_n (fr' := (9, [some (vr 0), some (vi (i : Int)), some (vi (u : Int)), some (vi z)], [vi (u : Int), vi (i : Int), vr 9])) (S' := MS I J cc ss) 5 rfl ?_
  refine ev_cv rfl rfl rfl ⟨Nat.le_of_ble_eq_true rfl, Nat.le_of_ble_eq_true rfl⟩ (sp_hasItem_9 X _ _ _ _ (i : Int) (u : Int) hI hwi) ?_
  show Ev X k_X8_alone (12, [some (vr 0), some (vi (i : Int)), some (vi (u : Int)), some (vi z)], [vi (if 0 ≤ (i : Int) ∧ (i : Int) < g 308 ∧ 0 ≤ (u : Int) ∧ (u : Int) < g (19 * (i : Int).toNat + 309) then 1 else 0)]) (MS I J cc ss) _
  refine ev_beq _ rfl (by decide) (fun (g1 : ¬ (0 ≤ (i : Int) ∧ (i : Int) < g 308 ∧ 0 ≤ (u : Int) ∧ (u : Int) < g (19 * (i : Int).toNat + 309))) => False.elim (g1 (⟨by omega, by omega, by omega, by rw [Int.toNat_natCast]; omega⟩))) (fun (g1 : 0 ≤ (i : Int) ∧ (i : Int) < g 308 ∧ 0 ≤ (u : Int) ∧ (u : Int) < g (19 * (i : Int).toNat + 309)) => ?_)
  show Ev X k_X8_alone (15, [some (vr 0), some (vi (i : Int)), some (vi (u : Int)), some (vi z)], []) (MS I J cc ss) _
  refine ev_n (fr' := (23, [some (vr 0), some (vi (i : Int)), some (vi (u : Int)), some (vi z)], [vi z, vr 2])) (S' := MS I J cc ss) 4 rfl ?_
  refine ev_cv rfl rfl rfl ⟨Nat.le_of_ble_eq_true rfl, Nat.le_of_ble_eq_true rfl⟩ (sp_has_2 X _ _ _ _ z hS) ?_
  show Ev X k_X8_alone (26, [some (vr 0), some (vi (i : Int)), some (vi (u : Int)), some (vi z)], [vi (if 0 ≤ z ∧ z < g 0 then 1 else 0)]) (MS I J cc ss) _
  refine ev_beq _ rfl (by decide) (fun (g2 : ¬ (0 ≤ z ∧ z < g 0)) => ?_) (fun (g2 : 0 ≤ z ∧ z < g 0) => False.elim ((h) g2))
  show Ev X k_X8_alone (33, [some (vr 0), some (vi (i : Int)), some (vi (u : Int)), some (vi z)], []) (MS I J cc ss) _
  refine ev_n (fr' := (34, [some (vr 0), some (vi (i : Int)), some (vi (u : Int)), some (vi z)], [vi 0])) (S' := MS I J cc ss) 1 rfl ?_
  refine ev_cx rfl rfl rfl ⟨Nat.le_of_ble_eq_true rfl, Nat.le_of_ble_eq_true rfl⟩ (sp_reqI0 X _ _ _ _) rfl ?_
  exact ⟨rfl, rfl⟩
theorem pb_alone (X : AX) (I J : Nat → Nat → Int) (cc ss : Nat) {g : F1} (i u k : Nat) (hS : SRep I 1 g) (hP : PRep I J 5 g) (hI : IRep I J 9 g) (hws : WS g) (hwp : WP g) (hwi : WI g) (hi : (i : Int) < g 308) (hu : (u : Int) < g (19 * i + 309)) (hk : (k : Int) < g 0) : Ev X k_X8_alone (0, [some (vr 0), some (vi (i : Int)), some (vi (u : Int)), some (vi (k : Int))], []) (MS I J cc ss) (PV cc ss (some (vi (cntB (fun y x => (icF g i (g (2 * k + 1)) (g (2 * k + 2))) y x ^^ (iconB g i (u : Int) (-1) (g (2 * k + 1)) (g (2 * k + 2))) y x)))) (fun I' J' => J' = J ∧ scrC I I')) := by
  have hO := scrC.refl I
  have hr := hws.2.2.1 k hk
  refine ev_n (fr' := (9, [some (vr 0), some (vi (i : Int)), some (vi (u : Int)), some (vi (k : Int))], [vi (u : Int), vi (i : Int), vr 9])) (S' := MS I J cc ss) 5 rfl ?_
  refine ev_cv rfl rfl rfl ⟨Nat.le_of_ble_eq_true rfl, Nat.le_of_ble_eq_true rfl⟩ (sp_hasItem_9 X _ _ _ _ (i : Int) (u : Int) hI hwi) ?_
  show Ev X k_X8_alone (12, [some (vr 0), some (vi (i : Int)), some (vi (u : Int)), some (vi (k : Int))], [vi (if 0 ≤ (i : Int) ∧ (i : Int) < g 308 ∧ 0 ≤ (u : Int) ∧ (u : Int) < g (19 * (i : Int).toNat + 309) then 1 else 0)]) (MS I J cc ss) _
  refine ev_beq _ rfl (by decide) (fun (g1 : ¬ (0 ≤ (i : Int) ∧ (i : Int) < g 308 ∧ 0 ≤ (u : Int) ∧ (u : Int) < g (19 * (i : Int).toNat + 309))) => False.elim (g1 (⟨by omega, by omega, by omega, by rw [Int.toNat_natCast]; omega⟩))) (fun (g1 : 0 ≤ (i : Int) ∧ (i : Int) < g 308 ∧ 0 ≤ (u : Int) ∧ (u : Int) < g (19 * (i : Int).toNat + 309)) => ?_)
  show Ev X k_X8_alone (15, [some (vr 0), some (vi (i : Int)), some (vi (u : Int)), some (vi (k : Int))], []) (MS I J cc ss) _
  refine ev_n (fr' := (23, [some (vr 0), some (vi (i : Int)), some (vi (u : Int)), some (vi (k : Int))], [vi (k : Int), vr 2])) (S' := MS I J cc ss) 4 rfl ?_
  refine ev_cv rfl rfl rfl ⟨Nat.le_of_ble_eq_true rfl, Nat.le_of_ble_eq_true rfl⟩ (sp_has_2 X _ _ _ _ (k : Int) hS) ?_
  show Ev X k_X8_alone (26, [some (vr 0), some (vi (i : Int)), some (vi (u : Int)), some (vi (k : Int))], [vi (if 0 ≤ (k : Int) ∧ (k : Int) < g 0 then 1 else 0)]) (MS I J cc ss) _
  refine ev_beq _ rfl (by decide) (fun (g2 : ¬ (0 ≤ (k : Int) ∧ (k : Int) < g 0)) => False.elim (g2 (by omega))) (fun (g2 : 0 ≤ (k : Int) ∧ (k : Int) < g 0) => ?_)
  show Ev X k_X8_alone (29, [some (vr 0), some (vi (i : Int)), some (vi (u : Int)), some (vi (k : Int))], []) (MS I J cc ss) _
  refine ev_n (fr' := (34, [some (vr 0), some (vi (i : Int)), some (vi (u : Int)), some (vi (k : Int))], [vi 1])) (S' := MS I J cc ss) 2 rfl ?_
  refine ev_cv rfl rfl rfl ⟨Nat.le_of_ble_eq_true rfl, Nat.le_of_ble_eq_true rfl⟩ (sp_reqI1 X _) ?_
  show Ev X k_X8_alone (37, [some (vr 0), some (vi (i : Int)), some (vi (u : Int)), some (vi (k : Int))], []) (MS I J cc ss) _
  refine ev_n (fr' := (44, [some (vr 0), some (vi (i : Int)), some (vi (u : Int)), some (vi (k : Int))], [vi (k : Int), vi (i : Int), vr 126, vr 0])) (S' := MS I J cc ss) 5 rfl ?_
  refine ev_cp rfl rfl rfl ⟨Nat.le_of_ble_eq_true rfl, Nat.le_of_ble_eq_true rfl⟩ (sp_drawAt_126 X _ _ _ _ i k hS hP hI hwp hwi hws (by omega) (by omega)) (fun I1 J q2 => ?_)
  obtain ⟨rfl, rI1, hD126⟩ := q2
  show Ev X k_X8_alone (47, [some (vr 0), some (vi (i : Int)), some (vi (u : Int)), some (vi (k : Int))], []) (MS I1 J cc ss) _
  have hO := hO.trans (rI1.scr (by decide))
  have hS := onlyD.S rI1 (by decide) (by decide) hS
  have hP := onlyD.P rI1 (by decide) (by decide) hP
  have hI := onlyD.I rI1 (by decide) (by decide) hI
  refine ev_n (fr' := (59, [some (vr 0), some (vi (i : Int)), some (vi (u : Int)), some (vi (k : Int))], [vi (k : Int), vr 2, vr 128])) (S' := MS I1 J cc ss) 6 rfl ?_
  refine ev_cv rfl rfl rfl ⟨Nat.le_of_ble_eq_true rfl, Nat.le_of_ble_eq_true rfl⟩ (sp_pixelsOf_2 X _ _ _ _ k hS hws (by omega)) ?_
  show Ev X k_X8_alone (62, [some (vr 0), some (vi (i : Int)), some (vi (u : Int)), some (vi (k : Int))], [vi (g (2 * k + 1)), vr 128]) (MS I1 J cc ss) _
  refine ev_n (fr' := (70, [some (vr 0), some (vi (i : Int)), some (vi (u : Int)), some (vi (k : Int))], [vi (k : Int), vr 2, vi (g (2 * k + 1)), vr 128])) (S' := MS I1 J cc ss) 4 rfl ?_
  refine ev_cv rfl rfl rfl ⟨Nat.le_of_ble_eq_true rfl, Nat.le_of_ble_eq_true rfl⟩ (sp_extraOf_2 X _ _ _ _ k hS hws (by omega)) ?_
  show Ev X k_X8_alone (73, [some (vr 0), some (vi (i : Int)), some (vi (u : Int)), some (vi (k : Int))], [vi (g (2 * k + 2)), vi (g (2 * k + 1)), vr 128]) (MS I1 J cc ss) _
  refine ev_cp rfl rfl rfl ⟨Nat.le_of_ble_eq_true rfl, Nat.le_of_ble_eq_true rfl⟩ (sp_start_128 X _ _ _ _ (P := (g (2 * k + 1))) (e := (g (2 * k + 2))) (by omega)) (fun I3 J q4 => ?_)
  obtain ⟨rfl, rI3, hD128⟩ := q4
  show Ev X k_X8_alone (76, [some (vr 0), some (vi (i : Int)), some (vi (u : Int)), some (vi (k : Int))], []) (MS I3 J cc ss) _
  have hO := hO.trans (rI3.scr (by decide))
  have hP := onlyD.P rI3 (by decide) (by decide) hP
  have hI := onlyD.I rI3 (by decide) (by decide) hI
  have hD126 : DR I3 126 (g (2 * k + 1)) (g (2 * k + 2)) (icF g i (g (2 * k + 1)) (g (2 * k + 2))) := by
    unfold DR at hD126 ⊢; rw [rI3 126 (by decide) (by decide), rI3 127 (by decide) (by decide)]; exact hD126
  refine ev_n (fr' := (87, [some (vr 0), some (vi (i : Int)), some (vi (u : Int)), some (vi (k : Int))], [vi (-1), vi (u : Int), vi (i : Int), vr 1, vr 128])) (S' := MS I3 J cc ss) 7 rfl ?_
  refine ev_cp rfl rfl rfl ⟨Nat.le_of_ble_eq_true rfl, Nat.le_of_ble_eq_true rfl⟩ (sp_inkIcon_128 X _ _ _ _ i (u : Int) (-1) (by omega) (by omega) hwp hwi (by omega) hP hI hD128) (fun I5 J q6 => ?_)
  obtain ⟨rfl, rI5, hD128⟩ := q6
  show Ev X k_X8_alone (90, [some (vr 0), some (vi (i : Int)), some (vi (u : Int)), some (vi (k : Int))], []) (MS I5 J cc ss) _
  have hO := hO.trans (rI5.scr (by decide))
  skip
  have hP := onlyD.P rI5 (by decide) (by decide) hP
  have hI := onlyD.I rI5 (by decide) (by decide) hI
  have hD128 := hD128.congr (D' := iconB g i (u : Int) (-1) ((g (2 * k + 1))) ((g (2 * k + 2)))) (fun y x => Bool.false_or _)
  have hD126 : DR I5 126 (g (2 * k + 1)) (g (2 * k + 2)) (icF g i (g (2 * k + 1)) (g (2 * k + 2))) := by
    unfold DR at hD126 ⊢; rw [rI5 126 (by decide) (by decide), rI5 127 (by decide) (by decide)]; exact hD126
  refine ev_n (fr' := (98, [some (vr 0), some (vi (i : Int)), some (vi (u : Int)), some (vi (k : Int))], [vr 128, vr 126])) (S' := MS I5 J cc ss) 4 rfl ?_
  refine ev_cv rfl rfl rfl ⟨Nat.le_of_ble_eq_true rfl, Nat.le_of_ble_eq_true rfl⟩ (sp_pixelsUnlike_126 X _ _ _ _ hD126 hD128) ?_
  show Ev X k_X8_alone (101, [some (vr 0), some (vi (i : Int)), some (vi (u : Int)), some (vi (k : Int))], [vi (cntB (fun y x => (icF g i (g (2 * k + 1)) (g (2 * k + 2))) y x ^^ (iconB g i (u : Int) (-1) (g (2 * k + 1)) (g (2 * k + 2))) y x))]) (MS I5 J cc ss) _
  refine ev_r rfl rfl rfl ?_
  exact ⟨_, _, rfl, rfl, rfl, hO⟩
