/-! PUBLIC QUESTIONS, reference: pixels, uses alone (printed by gen/g78.py) -/
theorem rb_isInked_x (X : AX) (I J : Nat → Nat → Int) (cc ss : Nat) {g : F1} (y z u v : Int) (hg : J 136 = g) (hws : WS g) (hwp : WP g) (hwi : WI g) (h : ¬ ((0 ≤ y ∧ y < g 308) ∧ (0 ≤ z ∧ z < g 0))) : Ev X k_X9_isInked (0, [some (vr 135), some (vi y), some (vi z), some (vi u), some (vi v)], []) (MS I J cc ss) (fun o T => o = .inl (some (vi 0)) ∧ T = MS (up2 I 135 4 1) J cc ss) := by
  have q0 := hws.1
  have q1 := hws.2.1
  have q2 := hwp.1
  have q3 := hwp.2.1
  have q4 := hwi.1
  have q5 := hwi.2.1
  refine ev_n (fr' := (4, [some (vr 135), some (vi y), some (vi z), some (vi u), some (vi v)], [vi z, vi y, vr 135, vr 135])) (S' := MS I J cc ss) 4 rfl ?_
  refine ev_cv rfl rfl rfl ⟨Nat.le_of_ble_eq_true rfl, Nat.le_of_ble_eq_true rfl⟩ (sp_isOut1 X _ _ _ _ y z hg hws hwp hwi h) ?_
  show Ev X k_X9_isInked (7, [some (vr 135), some (vi y), some (vi z), some (vi u), some (vi v)], [vi 1, vr 135]) (MS I J cc ss) _
  refine ev_n (fr' := (50, [some (vr 135), some (vi y), some (vi z), some (vi u), some (vi v)], [vi 1, vr 135])) (S' := MS I J cc ss) 3 rfl ?_
  refine ev_n (fr' := (53, [some (vr 135), some (vi y), some (vi z), some (vi u), some (vi v)], [])) (S' := MS (up2 I 135 4 1) J cc ss) 1 rfl ?_
  refine ev_n (fr' := (61, [some (vr 135), some (vi y), some (vi z), some (vi u), some (vi v)], [vi 0])) (S' := MS (up2 I 135 4 1) J cc ss) 4 rfl ?_
  refine ev_r rfl rfl rfl ?_
  exact ⟨rfl, rfl⟩
theorem rb_isInked_y (X : AX) (I J : Nat → Nat → Int) (cc ss : Nat) {g : F1} (i k : Nat) (u v : Int) (hg : J 136 = g) (hws : WS g) (hwp : WP g) (hwi : WI g) (hi : (i : Int) < g 308) (hk : (k : Int) < g 0) (h : ¬ (0 ≤ u ∧ u ≤ g (2 * k + 1) - 1)) : Ev X k_X9_isInked (0, [some (vr 135), some (vi (i : Int)), some (vi (k : Int)), some (vi u), some (vi v)], []) (MS I J cc ss) (fun o T => o = .inl (some (vi 0)) ∧ T = MS (up2 I 135 4 1) J cc ss) := by
  have q0 := hws.1
  have q1 := hws.2.1
  have q2 := hwp.1
  have q3 := hwp.2.1
  have q4 := hwi.1
  have q5 := hwi.2.1
  have hr := hws.2.2.1 k hk
  refine ev_n (fr' := (4, [some (vr 135), some (vi (i : Int)), some (vi (k : Int)), some (vi u), some (vi v)], [vi (k : Int), vi (i : Int), vr 135, vr 135])) (S' := MS I J cc ss) 4 rfl ?_
  refine ev_cv rfl rfl rfl ⟨Nat.le_of_ble_eq_true rfl, Nat.le_of_ble_eq_true rfl⟩ (sp_isOut0 X _ _ _ _ i k hg hws hwp hwi (by omega) (by omega)) ?_
  show Ev X k_X9_isInked (7, [some (vr 135), some (vi (i : Int)), some (vi (k : Int)), some (vi u), some (vi v)], [vi 0, vr 135]) (MS I J cc ss) _
  refine ev_n (fr' := (15, [some (vr 135), some (vi (i : Int)), some (vi (k : Int)), some (vi u), some (vi v)], [vi (k : Int), vr 135, vl 0, vl u, vr 135])) (S' := MS I J cc ss) 6 rfl ?_
  refine ev_cv rfl rfl rfl ⟨Nat.le_of_ble_eq_true rfl, Nat.le_of_ble_eq_true rfl⟩ (sp_pixelsOf_r X _ _ _ _ k hg hws (by omega)) ?_
  show Ev X k_X9_isInked (18, [some (vr 135), some (vi (i : Int)), some (vi (k : Int)), some (vi u), some (vi v)], [vi (g (2 * k + 1)), vl 0, vl u, vr 135]) (MS I J cc ss) _
  refine ev_n (fr' := (19, [some (vr 135), some (vi (i : Int)), some (vi (k : Int)), some (vi u), some (vi v)], [vi 1, vi (g (2 * k + 1)), vl 0, vl u, vr 135])) (S' := MS I J cc ss) 1 rfl ?_
  refine ev_sub (z := (g (2 * k + 1)) - 1) rfl (by omega) (by omega) (by omega) ?_
  show Ev X k_X9_isInked (20, [some (vr 135), some (vi (i : Int)), some (vi (k : Int)), some (vi u), some (vi v)], [vi ((g (2 * k + 1)) - 1), vl 0, vl u, vr 135]) (MS I J cc ss) _
  refine ev_n (fr' := (21, [some (vr 135), some (vi (i : Int)), some (vi (k : Int)), some (vi u), some (vi v)], [vl ((g (2 * k + 1)) - 1), vl 0, vl u, vr 135])) (S' := MS I J cc ss) 1 rfl ?_
  refine ev_cv rfl rfl rfl ⟨Nat.le_of_ble_eq_true rfl, Nat.le_of_ble_eq_true rfl⟩ (sp_isIn X _ u 0 ((g (2 * k + 1)) - 1) ) ?_
  show Ev X k_X9_isInked (24, [some (vr 135), some (vi (i : Int)), some (vi (k : Int)), some (vi u), some (vi v)], [vi (if 0 ≤ u ∧ u ≤ (g (2 * k + 1)) - 1 then 1 else 0), vr 135]) (MS I J cc ss) _
  refine ev_beq _ rfl (by decide) (fun (g1 : ¬ (0 ≤ u ∧ u ≤ (g (2 * k + 1)) - 1)) => ?_) (fun (g1 : 0 ≤ u ∧ u ≤ (g (2 * k + 1)) - 1) => False.elim ((h) g1))
  show Ev X k_X9_isInked (45, [some (vr 135), some (vi (i : Int)), some (vi (k : Int)), some (vi u), some (vi v)], [vr 135]) (MS I J cc ss) _
  refine ev_n (fr' := (50, [some (vr 135), some (vi (i : Int)), some (vi (k : Int)), some (vi u), some (vi v)], [vi 1, vr 135])) (S' := MS I J cc ss) 2 rfl ?_
  refine ev_n (fr' := (53, [some (vr 135), some (vi (i : Int)), some (vi (k : Int)), some (vi u), some (vi v)], [])) (S' := MS (up2 I 135 4 1) J cc ss) 1 rfl ?_
  refine ev_n (fr' := (61, [some (vr 135), some (vi (i : Int)), some (vi (k : Int)), some (vi u), some (vi v)], [vi 0])) (S' := MS (up2 I 135 4 1) J cc ss) 4 rfl ?_
  refine ev_r rfl rfl rfl ?_
  exact ⟨rfl, rfl⟩
theorem rb_isInked_z (X : AX) (I J : Nat → Nat → Int) (cc ss : Nat) {g : F1} (i k : Nat) (u v : Int) (hg : J 136 = g) (hws : WS g) (hwp : WP g) (hwi : WI g) (hi : (i : Int) < g 308) (hk : (k : Int) < g 0) (h1 : 0 ≤ u ∧ u ≤ g (2 * k + 1) - 1) (h : ¬ (0 ≤ v ∧ v ≤ g (2 * k + 1) - 1)) : Ev X k_X9_isInked (0, [some (vr 135), some (vi (i : Int)), some (vi (k : Int)), some (vi u), some (vi v)], []) (MS I J cc ss) (fun o T => o = .inl (some (vi 0)) ∧ T = MS (up2 I 135 4 1) J cc ss) := by
  have q0 := hws.1
  have q1 := hws.2.1
  have q2 := hwp.1
  have q3 := hwp.2.1
  have q4 := hwi.1
  have q5 := hwi.2.1
  have hr := hws.2.2.1 k hk
  refine ev_n (fr' := (4, [some (vr 135), some (vi (i : Int)), some (vi (k : Int)), some (vi u), some (vi v)], [vi (k : Int), vi (i : Int), vr 135, vr 135])) (S' := MS I J cc ss) 4 rfl ?_
  refine ev_cv rfl rfl rfl ⟨Nat.le_of_ble_eq_true rfl, Nat.le_of_ble_eq_true rfl⟩ (sp_isOut0 X _ _ _ _ i k hg hws hwp hwi (by omega) (by omega)) ?_
  show Ev X k_X9_isInked (7, [some (vr 135), some (vi (i : Int)), some (vi (k : Int)), some (vi u), some (vi v)], [vi 0, vr 135]) (MS I J cc ss) _
  refine ev_n (fr' := (15, [some (vr 135), some (vi (i : Int)), some (vi (k : Int)), some (vi u), some (vi v)], [vi (k : Int), vr 135, vl 0, vl u, vr 135])) (S' := MS I J cc ss) 6 rfl ?_
  refine ev_cv rfl rfl rfl ⟨Nat.le_of_ble_eq_true rfl, Nat.le_of_ble_eq_true rfl⟩ (sp_pixelsOf_r X _ _ _ _ k hg hws (by omega)) ?_
  show Ev X k_X9_isInked (18, [some (vr 135), some (vi (i : Int)), some (vi (k : Int)), some (vi u), some (vi v)], [vi (g (2 * k + 1)), vl 0, vl u, vr 135]) (MS I J cc ss) _
  refine ev_n (fr' := (19, [some (vr 135), some (vi (i : Int)), some (vi (k : Int)), some (vi u), some (vi v)], [vi 1, vi (g (2 * k + 1)), vl 0, vl u, vr 135])) (S' := MS I J cc ss) 1 rfl ?_
  refine ev_sub (z := (g (2 * k + 1)) - 1) rfl (by omega) (by omega) (by omega) ?_
  show Ev X k_X9_isInked (20, [some (vr 135), some (vi (i : Int)), some (vi (k : Int)), some (vi u), some (vi v)], [vi ((g (2 * k + 1)) - 1), vl 0, vl u, vr 135]) (MS I J cc ss) _
  refine ev_n (fr' := (21, [some (vr 135), some (vi (i : Int)), some (vi (k : Int)), some (vi u), some (vi v)], [vl ((g (2 * k + 1)) - 1), vl 0, vl u, vr 135])) (S' := MS I J cc ss) 1 rfl ?_
  refine ev_cv rfl rfl rfl ⟨Nat.le_of_ble_eq_true rfl, Nat.le_of_ble_eq_true rfl⟩ (sp_isIn X _ u 0 ((g (2 * k + 1)) - 1) ) ?_
  show Ev X k_X9_isInked (24, [some (vr 135), some (vi (i : Int)), some (vi (k : Int)), some (vi u), some (vi v)], [vi (if 0 ≤ u ∧ u ≤ (g (2 * k + 1)) - 1 then 1 else 0), vr 135]) (MS I J cc ss) _
  refine ev_beq _ rfl (by decide) (fun (g1 : ¬ (0 ≤ u ∧ u ≤ (g (2 * k + 1)) - 1)) => False.elim (g1 (h1))) (fun (g1 : 0 ≤ u ∧ u ≤ (g (2 * k + 1)) - 1) => ?_)
  show Ev X k_X9_isInked (27, [some (vr 135), some (vi (i : Int)), some (vi (k : Int)), some (vi u), some (vi v)], [vr 135]) (MS I J cc ss) _
  refine ev_n (fr' := (33, [some (vr 135), some (vi (i : Int)), some (vi (k : Int)), some (vi u), some (vi v)], [vi (k : Int), vr 135, vl 0, vl v, vr 135])) (S' := MS I J cc ss) 5 rfl ?_
  refine ev_cv rfl rfl rfl ⟨Nat.le_of_ble_eq_true rfl, Nat.le_of_ble_eq_true rfl⟩ (sp_pixelsOf_r X _ _ _ _ k hg hws (by omega)) ?_
  show Ev X k_X9_isInked (36, [some (vr 135), some (vi (i : Int)), some (vi (k : Int)), some (vi u), some (vi v)], [vi (g (2 * k + 1)), vl 0, vl v, vr 135]) (MS I J cc ss) _
  refine ev_n (fr' := (37, [some (vr 135), some (vi (i : Int)), some (vi (k : Int)), some (vi u), some (vi v)], [vi 1, vi (g (2 * k + 1)), vl 0, vl v, vr 135])) (S' := MS I J cc ss) 1 rfl ?_
  refine ev_sub (z := (g (2 * k + 1)) - 1) rfl (by omega) (by omega) (by omega) ?_
  show Ev X k_X9_isInked (38, [some (vr 135), some (vi (i : Int)), some (vi (k : Int)), some (vi u), some (vi v)], [vi ((g (2 * k + 1)) - 1), vl 0, vl v, vr 135]) (MS I J cc ss) _
  refine ev_n (fr' := (39, [some (vr 135), some (vi (i : Int)), some (vi (k : Int)), some (vi u), some (vi v)], [vl ((g (2 * k + 1)) - 1), vl 0, vl v, vr 135])) (S' := MS I J cc ss) 1 rfl ?_
  refine ev_cv rfl rfl rfl ⟨Nat.le_of_ble_eq_true rfl, Nat.le_of_ble_eq_true rfl⟩ (sp_isIn X _ v 0 ((g (2 * k + 1)) - 1) ) ?_
  show Ev X k_X9_isInked (42, [some (vr 135), some (vi (i : Int)), some (vi (k : Int)), some (vi u), some (vi v)], [vi (if 0 ≤ v ∧ v ≤ (g (2 * k + 1)) - 1 then 1 else 0), vr 135]) (MS I J cc ss) _
  refine ev_bne _ rfl (by decide) (fun (g2 : 0 ≤ v ∧ v ≤ (g (2 * k + 1)) - 1) => False.elim ((h) g2)) (fun (g2 : ¬ (0 ≤ v ∧ v ≤ (g (2 * k + 1)) - 1)) => ?_)
  show Ev X k_X9_isInked (45, [some (vr 135), some (vi (i : Int)), some (vi (k : Int)), some (vi u), some (vi v)], [vr 135]) (MS I J cc ss) _
  refine ev_n (fr' := (50, [some (vr 135), some (vi (i : Int)), some (vi (k : Int)), some (vi u), some (vi v)], [vi 1, vr 135])) (S' := MS I J cc ss) 2 rfl ?_
  refine ev_n (fr' := (53, [some (vr 135), some (vi (i : Int)), some (vi (k : Int)), some (vi u), some (vi v)], [])) (S' := MS (up2 I 135 4 1) J cc ss) 1 rfl ?_
  refine ev_n (fr' := (61, [some (vr 135), some (vi (i : Int)), some (vi (k : Int)), some (vi u), some (vi v)], [vi 0])) (S' := MS (up2 I 135 4 1) J cc ss) 4 rfl ?_
  refine ev_r rfl rfl rfl ?_
  exact ⟨rfl, rfl⟩
theorem rb_isInked (X : AX) (I J : Nat → Nat → Int) (cc ss : Nat) {g : F1} (i k u v : Nat) (hg : J 136 = g) (hws : WS g) (hwp : WP g) (hwi : WI g) (hi : (i : Int) < g 308) (hk : (k : Int) < g 0) (hu : (u : Int) < g (2 * k + 1)) (hv : (v : Int) < g (2 * k + 1)) : Ev X k_X9_isInked (0, [some (vr 135), some (vi (i : Int)), some (vi (k : Int)), some (vi (u : Int)), some (vi (v : Int))], []) (MS I J cc ss) (PV cc ss (some (vi (if (icF g i (g (2 * k + 1)) (g (2 * k + 2))) v u = true then 1 else 0))) (fun I' J' => J' = J ∧ scrM (up2 I 135 4 0) I')) := by
  have q0 := hws.1
  have q1 := hws.2.1
  have q2 := hwp.1
  have q3 := hwp.2.1
  have q4 := hwi.1
  have q5 := hwi.2.1
  have hr := hws.2.2.1 k hk
  have hF := scrM.refl (up2 I 135 4 0)
  refine ev_n (fr' := (4, [some (vr 135), some (vi (i : Int)), some (vi (k : Int)), some (vi (u : Int)), some (vi (v : Int))], [vi (k : Int), vi (i : Int), vr 135, vr 135])) (S' := MS I J cc ss) 4 rfl ?_
  refine ev_cv rfl rfl rfl ⟨Nat.le_of_ble_eq_true rfl, Nat.le_of_ble_eq_true rfl⟩ (sp_isOut0 X _ _ _ _ i k hg hws hwp hwi (by omega) (by omega)) ?_
  show Ev X k_X9_isInked (7, [some (vr 135), some (vi (i : Int)), some (vi (k : Int)), some (vi (u : Int)), some (vi (v : Int))], [vi 0, vr 135]) (MS I J cc ss) _
  refine ev_n (fr' := (15, [some (vr 135), some (vi (i : Int)), some (vi (k : Int)), some (vi (u : Int)), some (vi (v : Int))], [vi (k : Int), vr 135, vl 0, vl (u : Int), vr 135])) (S' := MS I J cc ss) 6 rfl ?_
  refine ev_cv rfl rfl rfl ⟨Nat.le_of_ble_eq_true rfl, Nat.le_of_ble_eq_true rfl⟩ (sp_pixelsOf_r X _ _ _ _ k hg hws (by omega)) ?_
  show Ev X k_X9_isInked (18, [some (vr 135), some (vi (i : Int)), some (vi (k : Int)), some (vi (u : Int)), some (vi (v : Int))], [vi (g (2 * k + 1)), vl 0, vl (u : Int), vr 135]) (MS I J cc ss) _
  refine ev_n (fr' := (19, [some (vr 135), some (vi (i : Int)), some (vi (k : Int)), some (vi (u : Int)), some (vi (v : Int))], [vi 1, vi (g (2 * k + 1)), vl 0, vl (u : Int), vr 135])) (S' := MS I J cc ss) 1 rfl ?_
  refine ev_sub (z := (g (2 * k + 1)) - 1) rfl (by omega) (by omega) (by omega) ?_
  show Ev X k_X9_isInked (20, [some (vr 135), some (vi (i : Int)), some (vi (k : Int)), some (vi (u : Int)), some (vi (v : Int))], [vi ((g (2 * k + 1)) - 1), vl 0, vl (u : Int), vr 135]) (MS I J cc ss) _
  refine ev_n (fr' := (21, [some (vr 135), some (vi (i : Int)), some (vi (k : Int)), some (vi (u : Int)), some (vi (v : Int))], [vl ((g (2 * k + 1)) - 1), vl 0, vl (u : Int), vr 135])) (S' := MS I J cc ss) 1 rfl ?_
  refine ev_cv rfl rfl rfl ⟨Nat.le_of_ble_eq_true rfl, Nat.le_of_ble_eq_true rfl⟩ (sp_isIn X _ (u : Int) 0 ((g (2 * k + 1)) - 1) ) ?_
  show Ev X k_X9_isInked (24, [some (vr 135), some (vi (i : Int)), some (vi (k : Int)), some (vi (u : Int)), some (vi (v : Int))], [vi (if 0 ≤ (u : Int) ∧ (u : Int) ≤ (g (2 * k + 1)) - 1 then 1 else 0), vr 135]) (MS I J cc ss) _
  refine ev_beq _ rfl (by decide) (fun (g1 : ¬ (0 ≤ (u : Int) ∧ (u : Int) ≤ (g (2 * k + 1)) - 1)) => False.elim (g1 (by omega))) (fun (g1 : 0 ≤ (u : Int) ∧ (u : Int) ≤ (g (2 * k + 1)) - 1) => ?_)
  show Ev X k_X9_isInked (27, [some (vr 135), some (vi (i : Int)), some (vi (k : Int)), some (vi (u : Int)), some (vi (v : Int))], [vr 135]) (MS I J cc ss) _
  refine ev_n (fr' := (33, [some (vr 135), some (vi (i : Int)), some (vi (k : Int)), some (vi (u : Int)), some (vi (v : Int))], [vi (k : Int), vr 135, vl 0, vl (v : Int), vr 135])) (S' := MS I J cc ss) 5 rfl ?_
  refine ev_cv rfl rfl rfl ⟨Nat.le_of_ble_eq_true rfl, Nat.le_of_ble_eq_true rfl⟩ (sp_pixelsOf_r X _ _ _ _ k hg hws (by omega)) ?_
  show Ev X k_X9_isInked (36, [some (vr 135), some (vi (i : Int)), some (vi (k : Int)), some (vi (u : Int)), some (vi (v : Int))], [vi (g (2 * k + 1)), vl 0, vl (v : Int), vr 135]) (MS I J cc ss) _
  refine ev_n (fr' := (37, [some (vr 135), some (vi (i : Int)), some (vi (k : Int)), some (vi (u : Int)), some (vi (v : Int))], [vi 1, vi (g (2 * k + 1)), vl 0, vl (v : Int), vr 135])) (S' := MS I J cc ss) 1 rfl ?_
  refine ev_sub (z := (g (2 * k + 1)) - 1) rfl (by omega) (by omega) (by omega) ?_
  show Ev X k_X9_isInked (38, [some (vr 135), some (vi (i : Int)), some (vi (k : Int)), some (vi (u : Int)), some (vi (v : Int))], [vi ((g (2 * k + 1)) - 1), vl 0, vl (v : Int), vr 135]) (MS I J cc ss) _
  refine ev_n (fr' := (39, [some (vr 135), some (vi (i : Int)), some (vi (k : Int)), some (vi (u : Int)), some (vi (v : Int))], [vl ((g (2 * k + 1)) - 1), vl 0, vl (v : Int), vr 135])) (S' := MS I J cc ss) 1 rfl ?_
  refine ev_cv rfl rfl rfl ⟨Nat.le_of_ble_eq_true rfl, Nat.le_of_ble_eq_true rfl⟩ (sp_isIn X _ (v : Int) 0 ((g (2 * k + 1)) - 1) ) ?_
  show Ev X k_X9_isInked (42, [some (vr 135), some (vi (i : Int)), some (vi (k : Int)), some (vi (u : Int)), some (vi (v : Int))], [vi (if 0 ≤ (v : Int) ∧ (v : Int) ≤ (g (2 * k + 1)) - 1 then 1 else 0), vr 135]) (MS I J cc ss) _
  refine ev_bne _ rfl (by decide) (fun (g2 : 0 ≤ (v : Int) ∧ (v : Int) ≤ (g (2 * k + 1)) - 1) => ?_) (fun (g2 : ¬ (0 ≤ (v : Int) ∧ (v : Int) ≤ (g (2 * k + 1)) - 1)) => False.elim (g2 (by omega)))
  show Ev X k_X9_isInked (49, [some (vr 135), some (vi (i : Int)), some (vi (k : Int)), some (vi (u : Int)), some (vi (v : Int))], [vr 135]) (MS I J cc ss) _
  refine ev_n (fr' := (50, [some (vr 135), some (vi (i : Int)), some (vi (k : Int)), some (vi (u : Int)), some (vi (v : Int))], [vi 0, vr 135])) (S' := MS I J cc ss) 1 rfl ?_
  refine ev_n (fr' := (53, [some (vr 135), some (vi (i : Int)), some (vi (k : Int)), some (vi (u : Int)), some (vi (v : Int))], [])) (S' := MS (up2 I 135 4 0) J cc ss) 1 rfl ?_
  refine ev_n (fr' := (65, [some (vr 135), some (vi (i : Int)), some (vi (k : Int)), some (vi (u : Int)), some (vi (v : Int))], [vi (k : Int), vi (i : Int), vr 135])) (S' := MS (up2 I 135 4 0) J cc ss) 6 rfl ?_
  refine ev_cp rfl rfl rfl ⟨Nat.le_of_ble_eq_true rfl, Nat.le_of_ble_eq_true rfl⟩ (sp_drawsAtW X _ _ _ _ i k hg hws hwp hwi (by omega) (by omega)) (fun I1 J q2 => ?_)
  obtain ⟨rfl, r1, hW, hD⟩ := q2
  show Ev X k_X9_isInked (68, [some (vr 135), some (vi (i : Int)), some (vi (k : Int)), some (vi (u : Int)), some (vi (v : Int))], []) (MS I1 J cc ss) _
  have hF := hF.trans r1.scr
  refine ev_n (fr' := (76, [some (vr 135), some (vi (i : Int)), some (vi (k : Int)), some (vi (u : Int)), some (vi (v : Int))], [vi (v : Int), vi 32, vr 140])) (S' := MS I1 J cc ss) 4 rfl ?_
  refine ev_mul (z := 32 * (v : Int)) rfl (by omega) (by omega) (by omega) ?_
  show Ev X k_X9_isInked (77, [some (vr 135), some (vi (i : Int)), some (vi (k : Int)), some (vi (u : Int)), some (vi (v : Int))], [vi (32 * (v : Int)), vr 140]) (MS I1 J cc ss) _
  refine ev_n (fr' := (78, [some (vr 135), some (vi (i : Int)), some (vi (k : Int)), some (vi (u : Int)), some (vi (v : Int))], [vi (u : Int), vi (32 * (v : Int)), vr 140])) (S' := MS I1 J cc ss) 1 rfl ?_
  refine ev_add (z := 32 * (v : Int) + (u : Int)) rfl (by omega) (by omega) (by omega) ?_
  show Ev X k_X9_isInked (79, [some (vr 135), some (vi (i : Int)), some (vi (k : Int)), some (vi (u : Int)), some (vi (v : Int))], [vi (32 * (v : Int) + (u : Int)), vr 140]) (MS I1 J cc ss) _
  refine ev_baN (j := 32 * v + u) (z := (if (icF g i (g (2 * k + 1)) (g (2 * k + 2))) v u = true then 1 else 0)) rfl rfl (by omega) (by omega) (hD v u (by omega) (by omega)) ?_
  show Ev X k_X9_isInked (80, [some (vr 135), some (vi (i : Int)), some (vi (k : Int)), some (vi (u : Int)), some (vi (v : Int))], [vi (if (icF g i (g (2 * k + 1)) (g (2 * k + 2))) v u = true then 1 else 0)]) (MS I1 J cc ss) _
  refine ev_r rfl rfl (rt_b _) ?_
  exact ⟨_, _, rfl, rfl, rfl, hF⟩
theorem rb_alone_x (X : AX) (I J : Nat → Nat → Int) (cc ss : Nat) {g : F1} (y t z : Int) (hg : J 136 = g) (hws : WS g) (hwp : WP g) (hwi : WI g) (h : ¬ (0 ≤ y ∧ y < g 308)) : Ev X k_X9_alone (0, [some (vr 135), some (vi y), some (vi t), some (vi z)], []) (MS I J cc ss) (fun o T => o = .inl (some (vi 0)) ∧ T = MS (up2 I 135 4 1) J cc ss) := by
  have q0 := hws.1
  have q1 := hws.2.1
  have q2 := hwp.1
  have q3 := hwp.2.1
  have q4 := hwi.1
  have q5 := hwi.2.1
  refine ev_n (fr' := (4, [some (vr 135), some (vi y), some (vi t), some (vi z)], [vi t, vi y, vr 135, vr 135])) (S' := MS I J cc ss) 4 rfl ?_
  refine ev_cv rfl rfl rfl ⟨Nat.le_of_ble_eq_true rfl, Nat.le_of_ble_eq_true rfl⟩ (sp_isUse_0 X _ _ _ _ y t hg hws hwp hwi h) ?_
  show Ev X k_X9_alone (7, [some (vr 135), some (vi y), some (vi t), some (vi z)], [vi 0, vr 135]) (MS I J cc ss) _
  refine ev_n (fr' := (23, [some (vr 135), some (vi y), some (vi t), some (vi z)], [vi 1, vr 135])) (S' := MS I J cc ss) 3 rfl ?_
  refine ev_n (fr' := (26, [some (vr 135), some (vi y), some (vi t), some (vi z)], [])) (S' := MS (up2 I 135 4 1) J cc ss) 1 rfl ?_
  refine ev_n (fr' := (34, [some (vr 135), some (vi y), some (vi t), some (vi z)], [vi 0])) (S' := MS (up2 I 135 4 1) J cc ss) 4 rfl ?_
  refine ev_r rfl rfl rfl ?_
  exact ⟨rfl, rfl⟩
theorem rb_alone_y (X : AX) (I J : Nat → Nat → Int) (cc ss : Nat) {g : F1} (i : Nat) (t z : Int) (hg : J 136 = g) (hws : WS g) (hwp : WP g) (hwi : WI g) (hi : (i : Int) < g 308) (h : ¬ (0 ≤ t ∧ t < g (19 * i + 309))) : Ev X k_X9_alone (0, [some (vr 135), some (vi (i : Int)), some (vi t), some (vi z)], []) (MS I J cc ss) (fun o T => o = .inl (some (vi 0)) ∧ T = MS (up2 I 135 4 1) J cc ss) := by
  have q0 := hws.1
  have q1 := hws.2.1
  have q2 := hwp.1
  have q3 := hwp.2.1
  have q4 := hwi.1
  have q5 := hwi.2.1
  refine ev_n (fr' := (4, [some (vr 135), some (vi (i : Int)), some (vi t), some (vi z)], [vi t, vi (i : Int), vr 135, vr 135])) (S' := MS I J cc ss) 4 rfl ?_
  refine ev_cv rfl rfl rfl ⟨Nat.le_of_ble_eq_true rfl, Nat.le_of_ble_eq_true rfl⟩ (sp_isUse_n X _ _ _ _ i t hg hws hwp hwi (by omega)) ?_
  show Ev X k_X9_alone (7, [some (vr 135), some (vi (i : Int)), some (vi t), some (vi z)], [vi (if 0 ≤ t ∧ t < g (19 * i + 309) then 1 else 0), vr 135]) (MS I J cc ss) _
  refine ev_beq _ rfl (by decide) (fun (g1 : ¬ (0 ≤ t ∧ t < g (19 * i + 309))) => ?_) (fun (g1 : 0 ≤ t ∧ t < g (19 * i + 309)) => False.elim ((h) g1))
  show Ev X k_X9_alone (18, [some (vr 135), some (vi (i : Int)), some (vi t), some (vi z)], [vr 135]) (MS I J cc ss) _
  refine ev_n (fr' := (23, [some (vr 135), some (vi (i : Int)), some (vi t), some (vi z)], [vi 1, vr 135])) (S' := MS I J cc ss) 2 rfl ?_
  refine ev_n (fr' := (26, [some (vr 135), some (vi (i : Int)), some (vi t), some (vi z)], [])) (S' := MS (up2 I 135 4 1) J cc ss) 1 rfl ?_
  refine ev_n (fr' := (34, [some (vr 135), some (vi (i : Int)), some (vi t), some (vi z)], [vi 0])) (S' := MS (up2 I 135 4 1) J cc ss) 4 rfl ?_
  refine ev_r rfl rfl rfl ?_
  exact ⟨rfl, rfl⟩
theorem rb_alone_z (X : AX) (I J : Nat → Nat → Int) (cc ss : Nat) {g : F1} (i u : Nat) (z : Int) (hg : J 136 = g) (hws : WS g) (hwp : WP g) (hwi : WI g) (hi : (i : Int) < g 308) (hu : (u : Int) < g (19 * i + 309)) (h : ¬ (0 ≤ z ∧ z < g 0)) : Ev X k_X9_alone (0, [some (vr 135), some (vi (i : Int)), some (vi (u : Int)), some (vi z)], []) (MS I J cc ss) (fun o T => o = .inl (some (vi 0)) ∧ T = MS (up2 I 135 4 1) J cc ss) := by
  have q0 := hws.1
  have q1 := hws.2.1
  have q2 := hwp.1
  have q3 := hwp.2.1
  have q4 := hwi.1
  have q5 := hwi.2.1
  refine ev_n (fr' := (4, [some (vr 135), some (vi (i : Int)), some (vi (u : Int)), some (vi z)], [vi (u : Int), vi (i : Int), vr 135, vr 135])) (S' := MS I J cc ss) 4 rfl ?_
  refine ev_cv rfl rfl rfl ⟨Nat.le_of_ble_eq_true rfl, Nat.le_of_ble_eq_true rfl⟩ (sp_isUse_n X _ _ _ _ i (u : Int) hg hws hwp hwi (by omega)) ?_
  show Ev X k_X9_alone (7, [some (vr 135), some (vi (i : Int)), some (vi (u : Int)), some (vi z)], [vi (if 0 ≤ (u : Int) ∧ (u : Int) < g (19 * i + 309) then 1 else 0), vr 135]) (MS I J cc ss) _
  refine ev_beq _ rfl (by decide) (fun (g1 : ¬ (0 ≤ (u : Int) ∧ (u : Int) < g (19 * i + 309))) => False.elim (g1 (by omega))) (fun (g1 : 0 ≤ (u : Int) ∧ (u : Int) < g (19 * i + 309)) => ?_)
  show Ev X k_X9_alone (10, [some (vr 135), some (vi (i : Int)), some (vi (u : Int)), some (vi z)], [vr 135]) (MS I J cc ss) _
  refine ev_n (fr' := (12, [some (vr 135), some (vi (i : Int)), some (vi (u : Int)), some (vi z)], [vi z, vr 135, vr 135])) (S' := MS I J cc ss) 2 rfl ?_
  refine ev_cv rfl rfl rfl ⟨Nat.le_of_ble_eq_true rfl, Nat.le_of_ble_eq_true rfl⟩ (sp_isSize_r X _ _ _ _ z hg hws) ?_
  show Ev X k_X9_alone (15, [some (vr 135), some (vi (i : Int)), some (vi (u : Int)), some (vi z)], [vi (if 0 ≤ z ∧ z ≤ g 0 - 1 then 1 else 0), vr 135]) (MS I J cc ss) _
  refine ev_bne _ rfl (by decide) (fun (g2 : 0 ≤ z ∧ z ≤ g 0 - 1) => False.elim ((show ¬ (0 ≤ z ∧ z ≤ g 0 - 1) from by omega) g2)) (fun (g2 : ¬ (0 ≤ z ∧ z ≤ g 0 - 1)) => ?_)
  show Ev X k_X9_alone (18, [some (vr 135), some (vi (i : Int)), some (vi (u : Int)), some (vi z)], [vr 135]) (MS I J cc ss) _
  refine ev_n (fr' := (23, [some (vr 135), some (vi (i : Int)), some (vi (u : Int)), some (vi z)], [vi 1, vr 135])) (S' := MS I J cc ss) 2 rfl ?_
  refine ev_n (fr' := (26, [some (vr 135), some (vi (i : Int)), some (vi (u : Int)), some (vi z)], [])) (S' := MS (up2 I 135 4 1) J cc ss) 1 rfl ?_
  refine ev_n (fr' := (34, [some (vr 135), some (vi (i : Int)), some (vi (u : Int)), some (vi z)], [vi 0])) (S' := MS (up2 I 135 4 1) J cc ss) 4 rfl ?_
  refine ev_r rfl rfl rfl ?_
  exact ⟨rfl, rfl⟩
theorem rb_alone (X : AX) (I J : Nat → Nat → Int) (cc ss : Nat) {g : F1} (i u k : Nat) (hg : J 136 = g) (hws : WS g) (hwp : WP g) (hwi : WI g) (hi : (i : Int) < g 308) (hu : (u : Int) < g (19 * i + 309)) (hk : (k : Int) < g 0) : Ev X k_X9_alone (0, [some (vr 135), some (vi (i : Int)), some (vi (u : Int)), some (vi (k : Int))], []) (MS I J cc ss) (PV cc ss (some (vi (cntB (fun y x => (icF g i (g (2 * k + 1)) (g (2 * k + 2))) y x ^^ (iconB g i (u : Int) (-1) (g (2 * k + 1)) (g (2 * k + 2))) y x)))) (fun I' J' => J' = J ∧ scrM (up2 I 135 4 0) I')) := by
  have q0 := hws.1
  have q1 := hws.2.1
  have q2 := hwp.1
  have q3 := hwp.2.1
  have q4 := hwi.1
  have q5 := hwi.2.1
  have hr := hws.2.2.1 k hk
  have hF := scrM.refl (up2 I 135 4 0)
  have h66 := (hwi.2.2 i hi).2.1
  refine ev_n (fr' := (4, [some (vr 135), some (vi (i : Int)), some (vi (u : Int)), some (vi (k : Int))], [vi (u : Int), vi (i : Int), vr 135, vr 135])) (S' := MS I J cc ss) 4 rfl ?_
  refine ev_cv rfl rfl rfl ⟨Nat.le_of_ble_eq_true rfl, Nat.le_of_ble_eq_true rfl⟩ (sp_isUse_n X _ _ _ _ i (u : Int) hg hws hwp hwi (by omega)) ?_
  show Ev X k_X9_alone (7, [some (vr 135), some (vi (i : Int)), some (vi (u : Int)), some (vi (k : Int))], [vi (if 0 ≤ (u : Int) ∧ (u : Int) < g (19 * i + 309) then 1 else 0), vr 135]) (MS I J cc ss) _
  refine ev_beq _ rfl (by decide) (fun (g1 : ¬ (0 ≤ (u : Int) ∧ (u : Int) < g (19 * i + 309))) => False.elim (g1 (by omega))) (fun (g1 : 0 ≤ (u : Int) ∧ (u : Int) < g (19 * i + 309)) => ?_)
  show Ev X k_X9_alone (10, [some (vr 135), some (vi (i : Int)), some (vi (u : Int)), some (vi (k : Int))], [vr 135]) (MS I J cc ss) _
  refine ev_n (fr' := (12, [some (vr 135), some (vi (i : Int)), some (vi (u : Int)), some (vi (k : Int))], [vi (k : Int), vr 135, vr 135])) (S' := MS I J cc ss) 2 rfl ?_
  refine ev_cv rfl rfl rfl ⟨Nat.le_of_ble_eq_true rfl, Nat.le_of_ble_eq_true rfl⟩ (sp_isSize_r X _ _ _ _ (k : Int) hg hws) ?_
  show Ev X k_X9_alone (15, [some (vr 135), some (vi (i : Int)), some (vi (u : Int)), some (vi (k : Int))], [vi (if 0 ≤ (k : Int) ∧ (k : Int) ≤ g 0 - 1 then 1 else 0), vr 135]) (MS I J cc ss) _
  refine ev_bne _ rfl (by decide) (fun (g2 : 0 ≤ (k : Int) ∧ (k : Int) ≤ g 0 - 1) => ?_) (fun (g2 : ¬ (0 ≤ (k : Int) ∧ (k : Int) ≤ g 0 - 1)) => False.elim (g2 (by omega)))
  show Ev X k_X9_alone (22, [some (vr 135), some (vi (i : Int)), some (vi (u : Int)), some (vi (k : Int))], [vr 135]) (MS I J cc ss) _
  refine ev_n (fr' := (23, [some (vr 135), some (vi (i : Int)), some (vi (u : Int)), some (vi (k : Int))], [vi 0, vr 135])) (S' := MS I J cc ss) 1 rfl ?_
  refine ev_n (fr' := (26, [some (vr 135), some (vi (i : Int)), some (vi (u : Int)), some (vi (k : Int))], [])) (S' := MS (up2 I 135 4 0) J cc ss) 1 rfl ?_
  refine ev_n (fr' := (38, [some (vr 135), some (vi (i : Int)), some (vi (u : Int)), some (vi (k : Int))], [vi (k : Int), vi (i : Int), vr 135])) (S' := MS (up2 I 135 4 0) J cc ss) 6 rfl ?_
  refine ev_cp rfl rfl rfl ⟨Nat.le_of_ble_eq_true rfl, Nat.le_of_ble_eq_true rfl⟩ (sp_drawsAtW X _ _ _ _ i k hg hws hwp hwi (by omega) (by omega)) (fun I1 J q2 => ?_)
  obtain ⟨rfl, r1, hW, hD⟩ := q2
  show Ev X k_X9_alone (41, [some (vr 135), some (vi (i : Int)), some (vi (u : Int)), some (vi (k : Int))], []) (MS I1 J cc ss) _
  have hF := hF.trans r1.scr
  refine ev_n (fr' := (42, [some (vr 135), some (vi (i : Int)), some (vi (u : Int)), some (vi (k : Int))], [vr 135])) (S' := MS I1 J cc ss) 1 rfl ?_
  refine ev_cp rfl rfl rfl ⟨Nat.le_of_ble_eq_true rfl, Nat.le_of_ble_eq_true rfl⟩ (sp_setsAside X _ _ _ _ hD) (fun I3 J q4 => ?_)
  obtain ⟨rfl, rO, hE⟩ := q4
  show Ev X k_X9_alone (45, [some (vr 135), some (vi (i : Int)), some (vi (u : Int)), some (vi (k : Int))], []) (MS I3 J cc ss) _
  have hF := hF.trans rO.scr
  refine ev_n (fr' := (49, [some (vr 135), some (vi (i : Int)), some (vi (u : Int)), some (vi (k : Int))], [vi (k : Int), vr 135, vi (i : Int), vr 135])) (S' := MS I3 J cc ss) 4 rfl ?_
  refine ev_cv rfl rfl rfl ⟨Nat.le_of_ble_eq_true rfl, Nat.le_of_ble_eq_true rfl⟩ (sp_pixelsOf_r X _ _ _ _ k hg hws (by omega)) ?_
  show Ev X k_X9_alone (52, [some (vr 135), some (vi (i : Int)), some (vi (u : Int)), some (vi (k : Int))], [vi (g (2 * k + 1)), vi (i : Int), vr 135]) (MS I3 J cc ss) _
  refine ev_n (fr' := (54, [some (vr 135), some (vi (i : Int)), some (vi (u : Int)), some (vi (k : Int))], [vi (k : Int), vr 135, vi (g (2 * k + 1)), vi (i : Int), vr 135])) (S' := MS I3 J cc ss) 2 rfl ?_
  refine ev_cv rfl rfl rfl ⟨Nat.le_of_ble_eq_true rfl, Nat.le_of_ble_eq_true rfl⟩ (sp_extraOf_r X _ _ _ _ k hg hws (by omega)) ?_
  show Ev X k_X9_alone (57, [some (vr 135), some (vi (i : Int)), some (vi (u : Int)), some (vi (k : Int))], [vi (g (2 * k + 2)), vi (g (2 * k + 1)), vi (i : Int), vr 135]) (MS I3 J cc ss) _
  refine ev_n (fr' := (59, [some (vr 135), some (vi (i : Int)), some (vi (u : Int)), some (vi (k : Int))], [vi (-1), vi (u : Int), vi (g (2 * k + 2)), vi (g (2 * k + 1)), vi (i : Int), vr 135])) (S' := MS I3 J cc ss) 2 rfl ?_
  refine ev_cp rfl rfl rfl ⟨Nat.le_of_ble_eq_true rfl, Nat.le_of_ble_eq_true rfl⟩ (sp_draws X _ _ _ _ i (g (2 * k + 1)) (g (2 * k + 2)) (u : Int) (-1) (by omega) (by omega) hg hwp hwi (by omega)) (fun I5 J q6 => ?_)
  obtain ⟨rfl, rW, hW, hD⟩ := q6
  show Ev X k_X9_alone (62, [some (vr 135), some (vi (i : Int)), some (vi (u : Int)), some (vi (k : Int))], []) (MS I5 J cc ss) _
  have hF := hF.trans rW.scr
  have hE : DO I5 (icF g i (g (2 * k + 1)) (g (2 * k + 2))) := fun y x hy hx => by rw [rW.1 141 (by decide) (by decide)]; exact hE y x hy hx
  refine ev_n (fr' := (63, [some (vr 135), some (vi (i : Int)), some (vi (u : Int)), some (vi (k : Int))], [vr 135])) (S' := MS I5 J cc ss) 1 rfl ?_
  refine ev_cv rfl rfl rfl ⟨Nat.le_of_ble_eq_true rfl, Nat.le_of_ble_eq_true rfl⟩ (sp_differs X _ _ _ _ hD hE) ?_
  show Ev X k_X9_alone (66, [some (vr 135), some (vi (i : Int)), some (vi (u : Int)), some (vi (k : Int))], [vi (cntB (fun y x => (iconB g i (u : Int) (-1) (g (2 * k + 1)) (g (2 * k + 2))) y x ^^ (icF g i (g (2 * k + 1)) (g (2 * k + 2))) y x))]) (MS I5 J cc ss) _
  refine ev_r rfl rfl rfl ?_
  exact ⟨_, _, rfl, congrArg (fun z => Sum.inl (some (vi z))) (congrArg cntB (funext (fun y => funext (fun x => Bool.xor_comm _ _)))), rfl, hF⟩
