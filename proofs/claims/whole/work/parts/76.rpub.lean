/-! PUBLIC QUESTIONS, reference: shapes, uses, names (printed by gen/g76.py) -/
theorem sp_isShape_n (X : AX) (I J : Nat → Nat → Int) (cc ss : Nat) {g : F1} (p : Nat) (t : Int) (hg : J 136 = g) (hws : WS g) (hwp : WP g) (hwi : WI g) (hp : (p : Int) < g 11) : Ev X k_X9_isShape (0, [some (vr 135), some (vi (p : Int)), some (vi t)], []) (MS I J cc ss) (fun o T => o = .inl (some (vi (if 0 ≤ t ∧ t < g (37 * p + 12) then 1 else 0))) ∧ T = MS I J cc ss) := by
  have q0 := hws.1
  have q1 := hws.2.1
  have q2 := hwp.1
  have q3 := hwp.2.1
  have q4 := hwi.1
  have q5 := hwi.2.1
  have hr := (hwp.2.2 p hp).2.1
  have hr1 := (hwp.2.2 p hp).1
  refine ev_n (fr' := (2, [some (vr 135), some (vi (p : Int)), some (vi t)], [vi (p : Int), vr 135])) (S' := MS I J cc ss) 2 rfl ?_
  refine ev_cv rfl rfl rfl ⟨Nat.le_of_ble_eq_true rfl, Nat.le_of_ble_eq_true rfl⟩ (sp_isPart_r X _ _ _ _ (p : Int) hg hwp) ?_
  show Ev X k_X9_isShape (5, [some (vr 135), some (vi (p : Int)), some (vi t)], [vi (if 0 ≤ (p : Int) ∧ (p : Int) ≤ g 11 - 1 then 1 else 0)]) (MS I J cc ss) _
  refine ev_beq _ rfl (by decide) (fun (g1 : ¬ (0 ≤ (p : Int) ∧ (p : Int) ≤ g 11 - 1)) => False.elim (by omega)) (fun (g1 : 0 ≤ (p : Int) ∧ (p : Int) ≤ g 11 - 1) => ?_)
  show Ev X k_X9_isShape (8, [some (vr 135), some (vi (p : Int)), some (vi t)], []) (MS I J cc ss) _
  refine ev_n (fr' := (13, [some (vr 135), some (vi (p : Int)), some (vi t)], [vi (p : Int), vr 135, vl 0, vl t])) (S' := MS I J cc ss) 5 rfl ?_
  refine ev_cv rfl rfl rfl ⟨Nat.le_of_ble_eq_true rfl, Nat.le_of_ble_eq_true rfl⟩ (sp_shapesOf_r X _ _ _ _ p hg hwp (by omega)) ?_
  show Ev X k_X9_isShape (16, [some (vr 135), some (vi (p : Int)), some (vi t)], [vi (g (37 * p + 12)), vl 0, vl t]) (MS I J cc ss) _
  refine ev_n (fr' := (17, [some (vr 135), some (vi (p : Int)), some (vi t)], [vi 1, vi (g (37 * p + 12)), vl 0, vl t])) (S' := MS I J cc ss) 1 rfl ?_
  refine ev_sub (z := (g (37 * p + 12)) - 1) rfl (by omega) (by omega) (by omega) ?_
  show Ev X k_X9_isShape (18, [some (vr 135), some (vi (p : Int)), some (vi t)], [vi ((g (37 * p + 12)) - 1), vl 0, vl t]) (MS I J cc ss) _
  refine ev_n (fr' := (19, [some (vr 135), some (vi (p : Int)), some (vi t)], [vl ((g (37 * p + 12)) - 1), vl 0, vl t])) (S' := MS I J cc ss) 1 rfl ?_
  refine ev_cv rfl rfl rfl ⟨Nat.le_of_ble_eq_true rfl, Nat.le_of_ble_eq_true rfl⟩ (sp_isIn X _ t 0 ((g (37 * p + 12)) - 1) ) ?_
  show Ev X k_X9_isShape (22, [some (vr 135), some (vi (p : Int)), some (vi t)], [vi (if 0 ≤ t ∧ t ≤ (g (37 * p + 12)) - 1 then 1 else 0)]) (MS I J cc ss) _
  refine ev_beq _ rfl (by decide) (fun (g2 : ¬ (0 ≤ t ∧ t ≤ (g (37 * p + 12)) - 1)) => ?_) (fun (g2 : 0 ≤ t ∧ t ≤ (g (37 * p + 12)) - 1) => ?_)
  · show Ev X k_X9_isShape (29, [some (vr 135), some (vi (p : Int)), some (vi t)], []) (MS I J cc ss) _
    refine ev_n (fr' := (30, [some (vr 135), some (vi (p : Int)), some (vi t)], [vi 0])) (S' := MS I J cc ss) 1 rfl ?_
    refine ev_r rfl rfl rfl ?_
    exact ⟨congrArg (fun z => Sum.inl (some (vi z))) (if_neg (by omega)).symm, rfl⟩
  · show Ev X k_X9_isShape (25, [some (vr 135), some (vi (p : Int)), some (vi t)], []) (MS I J cc ss) _
    refine ev_n (fr' := (30, [some (vr 135), some (vi (p : Int)), some (vi t)], [vi 1])) (S' := MS I J cc ss) 2 rfl ?_
    refine ev_r rfl rfl rfl ?_
    exact ⟨congrArg (fun z => Sum.inl (some (vi z))) (if_pos (by omega)).symm, rfl⟩
theorem sp_isShape_0 (X : AX) (I J : Nat → Nat → Int) (cc ss : Nat) {g : F1} (y t : Int) (hg : J 136 = g) (hws : WS g) (hwp : WP g) (hwi : WI g) (h : ¬ (0 ≤ y ∧ y < g 11)) : Ev X k_X9_isShape (0, [some (vr 135), some (vi y), some (vi t)], []) (MS I J cc ss) (fun o T => o = .inl (some (vi 0)) ∧ T = MS I J cc ss) := by
  have q0 := hws.1
  have q1 := hws.2.1
  have q2 := hwp.1
  have q3 := hwp.2.1
  have q4 := hwi.1
  have q5 := hwi.2.1
  refine ev_n (fr' := (2, [some (vr 135), some (vi y), some (vi t)], [vi y, vr 135])) (S' := MS I J cc ss) 2 rfl ?_
  refine ev_cv rfl rfl rfl ⟨Nat.le_of_ble_eq_true rfl, Nat.le_of_ble_eq_true rfl⟩ (sp_isPart_r X _ _ _ _ y hg hwp) ?_
  show Ev X k_X9_isShape (5, [some (vr 135), some (vi y), some (vi t)], [vi (if 0 ≤ y ∧ y ≤ g 11 - 1 then 1 else 0)]) (MS I J cc ss) _
  refine ev_beq _ rfl (by decide) (fun (g1 : ¬ (0 ≤ y ∧ y ≤ g 11 - 1)) => ?_) (fun (g1 : 0 ≤ y ∧ y ≤ g 11 - 1) => False.elim ((show ¬ (0 ≤ y ∧ y ≤ g 11 - 1) from by omega) g1))
  show Ev X k_X9_isShape (29, [some (vr 135), some (vi y), some (vi t)], []) (MS I J cc ss) _
  refine ev_n (fr' := (30, [some (vr 135), some (vi y), some (vi t)], [vi 0])) (S' := MS I J cc ss) 1 rfl ?_
  refine ev_r rfl rfl rfl ?_
  exact ⟨rfl, rfl⟩
theorem sp_isUse_n (X : AX) (I J : Nat → Nat → Int) (cc ss : Nat) {g : F1} (p : Nat) (t : Int) (hg : J 136 = g) (hws : WS g) (hwp : WP g) (hwi : WI g) (hp : (p : Int) < g 308) : Ev X k_X9_isUse (0, [some (vr 135), some (vi (p : Int)), some (vi t)], []) (MS I J cc ss) (fun o T => o = .inl (some (vi (if 0 ≤ t ∧ t < g (19 * p + 309) then 1 else 0))) ∧ T = MS I J cc ss) := by
  have q0 := hws.1
  have q1 := hws.2.1
  have q2 := hwp.1
  have q3 := hwp.2.1
  have q4 := hwi.1
  have q5 := hwi.2.1
  have hr := (hwi.2.2 p hp).2.1
  have hr1 := (hwi.2.2 p hp).1
  refine ev_n (fr' := (2, [some (vr 135), some (vi (p : Int)), some (vi t)], [vi (p : Int), vr 135])) (S' := MS I J cc ss) 2 rfl ?_
  refine ev_cv rfl rfl rfl ⟨Nat.le_of_ble_eq_true rfl, Nat.le_of_ble_eq_true rfl⟩ (sp_isIcon_r X _ _ _ _ (p : Int) hg hwi) ?_
  show Ev X k_X9_isUse (5, [some (vr 135), some (vi (p : Int)), some (vi t)], [vi (if 0 ≤ (p : Int) ∧ (p : Int) ≤ g 308 - 1 then 1 else 0)]) (MS I J cc ss) _
  refine ev_beq _ rfl (by decide) (fun (g1 : ¬ (0 ≤ (p : Int) ∧ (p : Int) ≤ g 308 - 1)) => False.elim (by omega)) (fun (g1 : 0 ≤ (p : Int) ∧ (p : Int) ≤ g 308 - 1) => ?_)
  show Ev X k_X9_isUse (8, [some (vr 135), some (vi (p : Int)), some (vi t)], []) (MS I J cc ss) _
  refine ev_n (fr' := (13, [some (vr 135), some (vi (p : Int)), some (vi t)], [vi (p : Int), vr 135, vl 0, vl t])) (S' := MS I J cc ss) 5 rfl ?_
  refine ev_cv rfl rfl rfl ⟨Nat.le_of_ble_eq_true rfl, Nat.le_of_ble_eq_true rfl⟩ (sp_usesOf_r X _ _ _ _ p hg hwi (by omega)) ?_
  show Ev X k_X9_isUse (16, [some (vr 135), some (vi (p : Int)), some (vi t)], [vi (g (19 * p + 309)), vl 0, vl t]) (MS I J cc ss) _
  refine ev_n (fr' := (17, [some (vr 135), some (vi (p : Int)), some (vi t)], [vi 1, vi (g (19 * p + 309)), vl 0, vl t])) (S' := MS I J cc ss) 1 rfl ?_
  refine ev_sub (z := (g (19 * p + 309)) - 1) rfl (by omega) (by omega) (by omega) ?_
  show Ev X k_X9_isUse (18, [some (vr 135), some (vi (p : Int)), some (vi t)], [vi ((g (19 * p + 309)) - 1), vl 0, vl t]) (MS I J cc ss) _
  refine ev_n (fr' := (19, [some (vr 135), some (vi (p : Int)), some (vi t)], [vl ((g (19 * p + 309)) - 1), vl 0, vl t])) (S' := MS I J cc ss) 1 rfl ?_
  refine ev_cv rfl rfl rfl ⟨Nat.le_of_ble_eq_true rfl, Nat.le_of_ble_eq_true rfl⟩ (sp_isIn X _ t 0 ((g (19 * p + 309)) - 1) ) ?_
  show Ev X k_X9_isUse (22, [some (vr 135), some (vi (p : Int)), some (vi t)], [vi (if 0 ≤ t ∧ t ≤ (g (19 * p + 309)) - 1 then 1 else 0)]) (MS I J cc ss) _
  refine ev_beq _ rfl (by decide) (fun (g2 : ¬ (0 ≤ t ∧ t ≤ (g (19 * p + 309)) - 1)) => ?_) (fun (g2 : 0 ≤ t ∧ t ≤ (g (19 * p + 309)) - 1) => ?_)
  · show Ev X k_X9_isUse (29, [some (vr 135), some (vi (p : Int)), some (vi t)], []) (MS I J cc ss) _
    refine ev_n (fr' := (30, [some (vr 135), some (vi (p : Int)), some (vi t)], [vi 0])) (S' := MS I J cc ss) 1 rfl ?_
    refine ev_r rfl rfl rfl ?_
    exact ⟨congrArg (fun z => Sum.inl (some (vi z))) (if_neg (by omega)).symm, rfl⟩
  · show Ev X k_X9_isUse (25, [some (vr 135), some (vi (p : Int)), some (vi t)], []) (MS I J cc ss) _
    refine ev_n (fr' := (30, [some (vr 135), some (vi (p : Int)), some (vi t)], [vi 1])) (S' := MS I J cc ss) 2 rfl ?_
    refine ev_r rfl rfl rfl ?_
    exact ⟨congrArg (fun z => Sum.inl (some (vi z))) (if_pos (by omega)).symm, rfl⟩
theorem sp_isUse_0 (X : AX) (I J : Nat → Nat → Int) (cc ss : Nat) {g : F1} (y t : Int) (hg : J 136 = g) (hws : WS g) (hwp : WP g) (hwi : WI g) (h : ¬ (0 ≤ y ∧ y < g 308)) : Ev X k_X9_isUse (0, [some (vr 135), some (vi y), some (vi t)], []) (MS I J cc ss) (fun o T => o = .inl (some (vi 0)) ∧ T = MS I J cc ss) := by
  have q0 := hws.1
  have q1 := hws.2.1
  have q2 := hwp.1
  have q3 := hwp.2.1
  have q4 := hwi.1
  have q5 := hwi.2.1
  refine ev_n (fr' := (2, [some (vr 135), some (vi y), some (vi t)], [vi y, vr 135])) (S' := MS I J cc ss) 2 rfl ?_
  refine ev_cv rfl rfl rfl ⟨Nat.le_of_ble_eq_true rfl, Nat.le_of_ble_eq_true rfl⟩ (sp_isIcon_r X _ _ _ _ y hg hwi) ?_
  show Ev X k_X9_isUse (5, [some (vr 135), some (vi y), some (vi t)], [vi (if 0 ≤ y ∧ y ≤ g 308 - 1 then 1 else 0)]) (MS I J cc ss) _
  refine ev_beq _ rfl (by decide) (fun (g1 : ¬ (0 ≤ y ∧ y ≤ g 308 - 1)) => ?_) (fun (g1 : 0 ≤ y ∧ y ≤ g 308 - 1) => False.elim ((show ¬ (0 ≤ y ∧ y ≤ g 308 - 1) from by omega) g1))
  show Ev X k_X9_isUse (29, [some (vr 135), some (vi y), some (vi t)], []) (MS I J cc ss) _
  refine ev_n (fr' := (30, [some (vr 135), some (vi y), some (vi t)], [vi 0])) (S' := MS I J cc ss) 1 rfl ?_
  refine ev_r rfl rfl rfl ?_
  exact ⟨rfl, rfl⟩
theorem rb_shape_x (X : AX) (I J : Nat → Nat → Int) (cc ss : Nat) {g : F1} (y t z : Int) (hg : J 136 = g) (hws : WS g) (hwp : WP g) (hwi : WI g) (h : ¬ (0 ≤ y ∧ y < g 11)) : Ev X k_X9_shape (0, [some (vr 135), some (vi y), some (vi t), some (vi z)], []) (MS I J cc ss) (fun o T => o = .inl (some (vi 0)) ∧ T = MS (up2 I 135 4 1) J cc ss) := by
  have q0 := hws.1
  have q1 := hws.2.1
  have q2 := hwp.1
  have q3 := hwp.2.1
  have q4 := hwi.1
  have q5 := hwi.2.1
  refine ev_n (fr' := (4, [some (vr 135), some (vi y), some (vi t), some (vi z)], [vi t, vi y, vr 135, vr 135])) (S' := MS I J cc ss) 4 rfl ?_
  refine ev_cv rfl rfl rfl ⟨Nat.le_of_ble_eq_true rfl, Nat.le_of_ble_eq_true rfl⟩ (sp_isShape_0 X _ _ _ _ y t hg hws hwp hwi h) ?_
  show Ev X k_X9_shape (7, [some (vr 135), some (vi y), some (vi t), some (vi z)], [vi 0, vr 135]) (MS I J cc ss) _
  refine ev_n (fr' := (31, [some (vr 135), some (vi y), some (vi t), some (vi z)], [vi 1, vr 135])) (S' := MS I J cc ss) 3 rfl ?_
  refine ev_n (fr' := (34, [some (vr 135), some (vi y), some (vi t), some (vi z)], [])) (S' := MS (up2 I 135 4 1) J cc ss) 1 rfl ?_
  refine ev_n (fr' := (52, [some (vr 135), some (vi y), some (vi t), some (vi z)], [vi 0])) (S' := MS (up2 I 135 4 1) J cc ss) 5 rfl ?_
  refine ev_r rfl rfl rfl ?_
  exact ⟨rfl, rfl⟩
theorem rb_shape_y (X : AX) (I J : Nat → Nat → Int) (cc ss : Nat) {g : F1} (p : Nat) (t z : Int) (hg : J 136 = g) (hws : WS g) (hwp : WP g) (hwi : WI g) (hp : (p : Int) < g 11) (h : ¬ (0 ≤ t ∧ t < g (37 * p + 12))) : Ev X k_X9_shape (0, [some (vr 135), some (vi (p : Int)), some (vi t), some (vi z)], []) (MS I J cc ss) (fun o T => o = .inl (some (vi 0)) ∧ T = MS (up2 I 135 4 1) J cc ss) := by
  have q0 := hws.1
  have q1 := hws.2.1
  have q2 := hwp.1
  have q3 := hwp.2.1
  have q4 := hwi.1
  have q5 := hwi.2.1
  refine ev_n (fr' := (4, [some (vr 135), some (vi (p : Int)), some (vi t), some (vi z)], [vi t, vi (p : Int), vr 135, vr 135])) (S' := MS I J cc ss) 4 rfl ?_
  refine ev_cv rfl rfl rfl ⟨Nat.le_of_ble_eq_true rfl, Nat.le_of_ble_eq_true rfl⟩ (sp_isShape_n X _ _ _ _ p t hg hws hwp hwi (by omega)) ?_
  show Ev X k_X9_shape (7, [some (vr 135), some (vi (p : Int)), some (vi t), some (vi z)], [vi (if 0 ≤ t ∧ t < g (37 * p + 12) then 1 else 0), vr 135]) (MS I J cc ss) _
  refine ev_bne _ rfl (by decide) (fun (g1 : 0 ≤ t ∧ t < g (37 * p + 12)) => False.elim ((h) g1)) (fun (g1 : ¬ (0 ≤ t ∧ t < g (37 * p + 12))) => ?_)
  show Ev X k_X9_shape (10, [some (vr 135), some (vi (p : Int)), some (vi t), some (vi z)], [vr 135]) (MS I J cc ss) _
  refine ev_n (fr' := (31, [some (vr 135), some (vi (p : Int)), some (vi t), some (vi z)], [vi 1, vr 135])) (S' := MS I J cc ss) 2 rfl ?_
  refine ev_n (fr' := (34, [some (vr 135), some (vi (p : Int)), some (vi t), some (vi z)], [])) (S' := MS (up2 I 135 4 1) J cc ss) 1 rfl ?_
  refine ev_n (fr' := (52, [some (vr 135), some (vi (p : Int)), some (vi t), some (vi z)], [vi 0])) (S' := MS (up2 I 135 4 1) J cc ss) 5 rfl ?_
  refine ev_r rfl rfl rfl ?_
  exact ⟨rfl, rfl⟩
theorem rb_shape_z (X : AX) (I J : Nat → Nat → Int) (cc ss : Nat) {g : F1} (p s : Nat) (z : Int) (hg : J 136 = g) (hws : WS g) (hwp : WP g) (hwi : WI g) (hp : (p : Int) < g 11) (hs2 : (s : Int) < g (37 * p + 12)) (h : ¬ (0 ≤ z ∧ z ≤ 5)) : Ev X k_X9_shape (0, [some (vr 135), some (vi (p : Int)), some (vi (s : Int)), some (vi z)], []) (MS I J cc ss) (fun o T => o = .inl (some (vi 0)) ∧ T = MS (up2 I 135 4 2) J cc ss) := by
  have q0 := hws.1
  have q1 := hws.2.1
  have q2 := hwp.1
  have q3 := hwp.2.1
  have q4 := hwi.1
  have q5 := hwi.2.1
  refine ev_n (fr' := (4, [some (vr 135), some (vi (p : Int)), some (vi (s : Int)), some (vi z)], [vi (s : Int), vi (p : Int), vr 135, vr 135])) (S' := MS I J cc ss) 4 rfl ?_
  refine ev_cv rfl rfl rfl ⟨Nat.le_of_ble_eq_true rfl, Nat.le_of_ble_eq_true rfl⟩ (sp_isShape_n X _ _ _ _ p (s : Int) hg hws hwp hwi (by omega)) ?_
  show Ev X k_X9_shape (7, [some (vr 135), some (vi (p : Int)), some (vi (s : Int)), some (vi z)], [vi (if 0 ≤ (s : Int) ∧ (s : Int) < g (37 * p + 12) then 1 else 0), vr 135]) (MS I J cc ss) _
  refine ev_bne _ rfl (by decide) (fun (g1 : 0 ≤ (s : Int) ∧ (s : Int) < g (37 * p + 12)) => ?_) (fun (g1 : ¬ (0 ≤ (s : Int) ∧ (s : Int) < g (37 * p + 12))) => False.elim (g1 (by omega)))
  show Ev X k_X9_shape (14, [some (vr 135), some (vi (p : Int)), some (vi (s : Int)), some (vi z)], [vr 135]) (MS I J cc ss) _
  refine ev_n (fr' := (20, [some (vr 135), some (vi (p : Int)), some (vi (s : Int)), some (vi z)], [vl 5, vl 0, vl z, vr 135])) (S' := MS I J cc ss) 4 rfl ?_
  refine ev_cv rfl rfl rfl ⟨Nat.le_of_ble_eq_true rfl, Nat.le_of_ble_eq_true rfl⟩ (sp_isIn X _ z 0 5 ) ?_
  show Ev X k_X9_shape (23, [some (vr 135), some (vi (p : Int)), some (vi (s : Int)), some (vi z)], [vi (if 0 ≤ z ∧ z ≤ 5 then 1 else 0), vr 135]) (MS I J cc ss) _
  refine ev_beq _ rfl (by decide) (fun (g2 : ¬ (0 ≤ z ∧ z ≤ 5)) => ?_) (fun (g2 : 0 ≤ z ∧ z ≤ 5) => False.elim ((show ¬ (0 ≤ z ∧ z ≤ 5) from by omega) g2))
  show Ev X k_X9_shape (30, [some (vr 135), some (vi (p : Int)), some (vi (s : Int)), some (vi z)], [vr 135]) (MS I J cc ss) _
  refine ev_n (fr' := (31, [some (vr 135), some (vi (p : Int)), some (vi (s : Int)), some (vi z)], [vi 2, vr 135])) (S' := MS I J cc ss) 1 rfl ?_
  refine ev_n (fr' := (34, [some (vr 135), some (vi (p : Int)), some (vi (s : Int)), some (vi z)], [])) (S' := MS (up2 I 135 4 2) J cc ss) 1 rfl ?_
  refine ev_n (fr' := (52, [some (vr 135), some (vi (p : Int)), some (vi (s : Int)), some (vi z)], [vi 0])) (S' := MS (up2 I 135 4 2) J cc ss) 5 rfl ?_
  refine ev_r rfl rfl rfl ?_
  exact ⟨rfl, rfl⟩
theorem rb_shape (X : AX) (I J : Nat → Nat → Int) (cc ss : Nat) {g : F1} (p s w : Nat) (hg : J 136 = g) (hws : WS g) (hwp : WP g) (hwi : WI g) (hp : (p : Int) < g 11) (hs2 : (s : Int) < g (37 * p + 12)) (hw6 : w ≤ 5) : Ev X k_X9_shape (0, [some (vr 135), some (vi (p : Int)), some (vi (s : Int)), some (vi (w : Int))], []) (MS I J cc ss) (PV cc ss (some (vi (g (37 * p + 6 * s + w + 13)))) (fun I' J' => J' = J ∧ scrM (up2 I 135 4 0) I')) := by
  have q0 := hws.1
  have q1 := hws.2.1
  have q2 := hwp.1
  have q3 := hwp.2.1
  have q4 := hwi.1
  have q5 := hwi.2.1
  refine ev_n (fr' := (4, [some (vr 135), some (vi (p : Int)), some (vi (s : Int)), some (vi (w : Int))], [vi (s : Int), vi (p : Int), vr 135, vr 135])) (S' := MS I J cc ss) 4 rfl ?_
  refine ev_cv rfl rfl rfl ⟨Nat.le_of_ble_eq_true rfl, Nat.le_of_ble_eq_true rfl⟩ (sp_isShape_n X _ _ _ _ p (s : Int) hg hws hwp hwi (by omega)) ?_
  show Ev X k_X9_shape (7, [some (vr 135), some (vi (p : Int)), some (vi (s : Int)), some (vi (w : Int))], [vi (if 0 ≤ (s : Int) ∧ (s : Int) < g (37 * p + 12) then 1 else 0), vr 135]) (MS I J cc ss) _
  refine ev_bne _ rfl (by decide) (fun (g1 : 0 ≤ (s : Int) ∧ (s : Int) < g (37 * p + 12)) => ?_) (fun (g1 : ¬ (0 ≤ (s : Int) ∧ (s : Int) < g (37 * p + 12))) => False.elim (g1 (by omega)))
  show Ev X k_X9_shape (14, [some (vr 135), some (vi (p : Int)), some (vi (s : Int)), some (vi (w : Int))], [vr 135]) (MS I J cc ss) _
  refine ev_n (fr' := (20, [some (vr 135), some (vi (p : Int)), some (vi (s : Int)), some (vi (w : Int))], [vl 5, vl 0, vl (w : Int), vr 135])) (S' := MS I J cc ss) 4 rfl ?_
  refine ev_cv rfl rfl rfl ⟨Nat.le_of_ble_eq_true rfl, Nat.le_of_ble_eq_true rfl⟩ (sp_isIn X _ (w : Int) 0 5 ) ?_
  show Ev X k_X9_shape (23, [some (vr 135), some (vi (p : Int)), some (vi (s : Int)), some (vi (w : Int))], [vi (if 0 ≤ (w : Int) ∧ (w : Int) ≤ 5 then 1 else 0), vr 135]) (MS I J cc ss) _
  refine ev_beq _ rfl (by decide) (fun (g2 : ¬ (0 ≤ (w : Int) ∧ (w : Int) ≤ 5)) => False.elim (g2 (by omega))) (fun (g2 : 0 ≤ (w : Int) ∧ (w : Int) ≤ 5) => ?_)
  show Ev X k_X9_shape (26, [some (vr 135), some (vi (p : Int)), some (vi (s : Int)), some (vi (w : Int))], [vr 135]) (MS I J cc ss) _
  refine ev_n (fr' := (31, [some (vr 135), some (vi (p : Int)), some (vi (s : Int)), some (vi (w : Int))], [vi 0, vr 135])) (S' := MS I J cc ss) 2 rfl ?_
  refine ev_n (fr' := (34, [some (vr 135), some (vi (p : Int)), some (vi (s : Int)), some (vi (w : Int))], [])) (S' := MS (up2 I 135 4 0) J cc ss) 1 rfl ?_
  refine ev_n (fr' := (49, [some (vr 135), some (vi (p : Int)), some (vi (s : Int)), some (vi (w : Int))], [vi (w : Int), vi (s : Int), vi (p : Int), vr 135])) (S' := MS (up2 I 135 4 0) J cc ss) 7 rfl ?_
  refine ev_cv rfl rfl rfl ⟨Nat.le_of_ble_eq_true rfl, Nat.le_of_ble_eq_true rfl⟩ (sp_ofShape_r X _ _ _ _ p s w hg hwp (by omega) (by omega) (by omega)) ?_
  show Ev X k_X9_shape (52, [some (vr 135), some (vi (p : Int)), some (vi (s : Int)), some (vi (w : Int))], [vi (g (37 * p + 6 * s + w + 13))]) (MS (up2 I 135 4 0) J cc ss) _
  refine ev_r rfl rfl rfl ?_
  exact ⟨_, _, rfl, rfl, rfl, scrM.refl _⟩
theorem rb_use_x (X : AX) (I J : Nat → Nat → Int) (cc ss : Nat) {g : F1} (y t z : Int) (hg : J 136 = g) (hws : WS g) (hwp : WP g) (hwi : WI g) (h : ¬ (0 ≤ y ∧ y < g 308)) : Ev X k_X9_use (0, [some (vr 135), some (vi y), some (vi t), some (vi z)], []) (MS I J cc ss) (fun o T => o = .inl (some (vi 0)) ∧ T = MS (up2 I 135 4 1) J cc ss) := by
  have q0 := hws.1
  have q1 := hws.2.1
  have q2 := hwp.1
  have q3 := hwp.2.1
  have q4 := hwi.1
  have q5 := hwi.2.1
  refine ev_n (fr' := (4, [some (vr 135), some (vi y), some (vi t), some (vi z)], [vi t, vi y, vr 135, vr 135])) (S' := MS I J cc ss) 4 rfl ?_
  refine ev_cv rfl rfl rfl ⟨Nat.le_of_ble_eq_true rfl, Nat.le_of_ble_eq_true rfl⟩ (sp_isUse_0 X _ _ _ _ y t hg hws hwp hwi h) ?_
  show Ev X k_X9_use (7, [some (vr 135), some (vi y), some (vi t), some (vi z)], [vi 0, vr 135]) (MS I J cc ss) _
  refine ev_n (fr' := (31, [some (vr 135), some (vi y), some (vi t), some (vi z)], [vi 1, vr 135])) (S' := MS I J cc ss) 3 rfl ?_
  refine ev_n (fr' := (34, [some (vr 135), some (vi y), some (vi t), some (vi z)], [])) (S' := MS (up2 I 135 4 1) J cc ss) 1 rfl ?_
  refine ev_n (fr' := (52, [some (vr 135), some (vi y), some (vi t), some (vi z)], [vi 0])) (S' := MS (up2 I 135 4 1) J cc ss) 5 rfl ?_
  refine ev_r rfl rfl rfl ?_
  exact ⟨rfl, rfl⟩
theorem rb_use_y (X : AX) (I J : Nat → Nat → Int) (cc ss : Nat) {g : F1} (p : Nat) (t z : Int) (hg : J 136 = g) (hws : WS g) (hwp : WP g) (hwi : WI g) (hp : (p : Int) < g 308) (h : ¬ (0 ≤ t ∧ t < g (19 * p + 309))) : Ev X k_X9_use (0, [some (vr 135), some (vi (p : Int)), some (vi t), some (vi z)], []) (MS I J cc ss) (fun o T => o = .inl (some (vi 0)) ∧ T = MS (up2 I 135 4 1) J cc ss) := by
  have q0 := hws.1
  have q1 := hws.2.1
  have q2 := hwp.1
  have q3 := hwp.2.1
  have q4 := hwi.1
  have q5 := hwi.2.1
  refine ev_n (fr' := (4, [some (vr 135), some (vi (p : Int)), some (vi t), some (vi z)], [vi t, vi (p : Int), vr 135, vr 135])) (S' := MS I J cc ss) 4 rfl ?_
  refine ev_cv rfl rfl rfl ⟨Nat.le_of_ble_eq_true rfl, Nat.le_of_ble_eq_true rfl⟩ (sp_isUse_n X _ _ _ _ p t hg hws hwp hwi (by omega)) ?_
  show Ev X k_X9_use (7, [some (vr 135), some (vi (p : Int)), some (vi t), some (vi z)], [vi (if 0 ≤ t ∧ t < g (19 * p + 309) then 1 else 0), vr 135]) (MS I J cc ss) _
  refine ev_bne _ rfl (by decide) (fun (g1 : 0 ≤ t ∧ t < g (19 * p + 309)) => False.elim ((h) g1)) (fun (g1 : ¬ (0 ≤ t ∧ t < g (19 * p + 309))) => ?_)
  show Ev X k_X9_use (10, [some (vr 135), some (vi (p : Int)), some (vi t), some (vi z)], [vr 135]) (MS I J cc ss) _
  refine ev_n (fr' := (31, [some (vr 135), some (vi (p : Int)), some (vi t), some (vi z)], [vi 1, vr 135])) (S' := MS I J cc ss) 2 rfl ?_
  refine ev_n (fr' := (34, [some (vr 135), some (vi (p : Int)), some (vi t), some (vi z)], [])) (S' := MS (up2 I 135 4 1) J cc ss) 1 rfl ?_
  refine ev_n (fr' := (52, [some (vr 135), some (vi (p : Int)), some (vi t), some (vi z)], [vi 0])) (S' := MS (up2 I 135 4 1) J cc ss) 5 rfl ?_
  refine ev_r rfl rfl rfl ?_
  exact ⟨rfl, rfl⟩
theorem rb_use_z (X : AX) (I J : Nat → Nat → Int) (cc ss : Nat) {g : F1} (p s : Nat) (z : Int) (hg : J 136 = g) (hws : WS g) (hwp : WP g) (hwi : WI g) (hp : (p : Int) < g 308) (hs2 : (s : Int) < g (19 * p + 309)) (h : ¬ (0 ≤ z ∧ z ≤ 2)) : Ev X k_X9_use (0, [some (vr 135), some (vi (p : Int)), some (vi (s : Int)), some (vi z)], []) (MS I J cc ss) (fun o T => o = .inl (some (vi 0)) ∧ T = MS (up2 I 135 4 2) J cc ss) := by
  have q0 := hws.1
  have q1 := hws.2.1
  have q2 := hwp.1
  have q3 := hwp.2.1
  have q4 := hwi.1
  have q5 := hwi.2.1
  refine ev_n (fr' := (4, [some (vr 135), some (vi (p : Int)), some (vi (s : Int)), some (vi z)], [vi (s : Int), vi (p : Int), vr 135, vr 135])) (S' := MS I J cc ss) 4 rfl ?_
  refine ev_cv rfl rfl rfl ⟨Nat.le_of_ble_eq_true rfl, Nat.le_of_ble_eq_true rfl⟩ (sp_isUse_n X _ _ _ _ p (s : Int) hg hws hwp hwi (by omega)) ?_
  show Ev X k_X9_use (7, [some (vr 135), some (vi (p : Int)), some (vi (s : Int)), some (vi z)], [vi (if 0 ≤ (s : Int) ∧ (s : Int) < g (19 * p + 309) then 1 else 0), vr 135]) (MS I J cc ss) _
  refine ev_bne _ rfl (by decide) (fun (g1 : 0 ≤ (s : Int) ∧ (s : Int) < g (19 * p + 309)) => ?_) (fun (g1 : ¬ (0 ≤ (s : Int) ∧ (s : Int) < g (19 * p + 309))) => False.elim (g1 (by omega)))
  show Ev X k_X9_use (14, [some (vr 135), some (vi (p : Int)), some (vi (s : Int)), some (vi z)], [vr 135]) (MS I J cc ss) _
  refine ev_n (fr' := (20, [some (vr 135), some (vi (p : Int)), some (vi (s : Int)), some (vi z)], [vl 2, vl 0, vl z, vr 135])) (S' := MS I J cc ss) 4 rfl ?_
  refine ev_cv rfl rfl rfl ⟨Nat.le_of_ble_eq_true rfl, Nat.le_of_ble_eq_true rfl⟩ (sp_isIn X _ z 0 2 ) ?_
  show Ev X k_X9_use (23, [some (vr 135), some (vi (p : Int)), some (vi (s : Int)), some (vi z)], [vi (if 0 ≤ z ∧ z ≤ 2 then 1 else 0), vr 135]) (MS I J cc ss) _
  refine ev_beq _ rfl (by decide) (fun (g2 : ¬ (0 ≤ z ∧ z ≤ 2)) => ?_) (fun (g2 : 0 ≤ z ∧ z ≤ 2) => False.elim ((show ¬ (0 ≤ z ∧ z ≤ 2) from by omega) g2))
  show Ev X k_X9_use (30, [some (vr 135), some (vi (p : Int)), some (vi (s : Int)), some (vi z)], [vr 135]) (MS I J cc ss) _
  refine ev_n (fr' := (31, [some (vr 135), some (vi (p : Int)), some (vi (s : Int)), some (vi z)], [vi 2, vr 135])) (S' := MS I J cc ss) 1 rfl ?_
  refine ev_n (fr' := (34, [some (vr 135), some (vi (p : Int)), some (vi (s : Int)), some (vi z)], [])) (S' := MS (up2 I 135 4 2) J cc ss) 1 rfl ?_
  refine ev_n (fr' := (52, [some (vr 135), some (vi (p : Int)), some (vi (s : Int)), some (vi z)], [vi 0])) (S' := MS (up2 I 135 4 2) J cc ss) 5 rfl ?_
  refine ev_r rfl rfl rfl ?_
  exact ⟨rfl, rfl⟩
theorem rb_use (X : AX) (I J : Nat → Nat → Int) (cc ss : Nat) {g : F1} (p s w : Nat) (hg : J 136 = g) (hws : WS g) (hwp : WP g) (hwi : WI g) (hp : (p : Int) < g 308) (hs2 : (s : Int) < g (19 * p + 309)) (hw6 : w ≤ 2) : Ev X k_X9_use (0, [some (vr 135), some (vi (p : Int)), some (vi (s : Int)), some (vi (w : Int))], []) (MS I J cc ss) (PV cc ss (some (vi (g (19 * p + 3 * s + w + 310)))) (fun I' J' => J' = J ∧ scrM (up2 I 135 4 0) I')) := by
  have q0 := hws.1
  have q1 := hws.2.1
  have q2 := hwp.1
  have q3 := hwp.2.1
  have q4 := hwi.1
  have q5 := hwi.2.1
  refine ev_n (fr' := (4, [some (vr 135), some (vi (p : Int)), some (vi (s : Int)), some (vi (w : Int))], [vi (s : Int), vi (p : Int), vr 135, vr 135])) (S' := MS I J cc ss) 4 rfl ?_
  refine ev_cv rfl rfl rfl ⟨Nat.le_of_ble_eq_true rfl, Nat.le_of_ble_eq_true rfl⟩ (sp_isUse_n X _ _ _ _ p (s : Int) hg hws hwp hwi (by omega)) ?_
  show Ev X k_X9_use (7, [some (vr 135), some (vi (p : Int)), some (vi (s : Int)), some (vi (w : Int))], [vi (if 0 ≤ (s : Int) ∧ (s : Int) < g (19 * p + 309) then 1 else 0), vr 135]) (MS I J cc ss) _
  refine ev_bne _ rfl (by decide) (fun (g1 : 0 ≤ (s : Int) ∧ (s : Int) < g (19 * p + 309)) => ?_) (fun (g1 : ¬ (0 ≤ (s : Int) ∧ (s : Int) < g (19 * p + 309))) => False.elim (g1 (by omega)))
  show Ev X k_X9_use (14, [some (vr 135), some (vi (p : Int)), some (vi (s : Int)), some (vi (w : Int))], [vr 135]) (MS I J cc ss) _
  refine ev_n (fr' := (20, [some (vr 135), some (vi (p : Int)), some (vi (s : Int)), some (vi (w : Int))], [vl 2, vl 0, vl (w : Int), vr 135])) (S' := MS I J cc ss) 4 rfl ?_
  refine ev_cv rfl rfl rfl ⟨Nat.le_of_ble_eq_true rfl, Nat.le_of_ble_eq_true rfl⟩ (sp_isIn X _ (w : Int) 0 2 ) ?_
  show Ev X k_X9_use (23, [some (vr 135), some (vi (p : Int)), some (vi (s : Int)), some (vi (w : Int))], [vi (if 0 ≤ (w : Int) ∧ (w : Int) ≤ 2 then 1 else 0), vr 135]) (MS I J cc ss) _
  refine ev_beq _ rfl (by decide) (fun (g2 : ¬ (0 ≤ (w : Int) ∧ (w : Int) ≤ 2)) => False.elim (g2 (by omega))) (fun (g2 : 0 ≤ (w : Int) ∧ (w : Int) ≤ 2) => ?_)
  show Ev X k_X9_use (26, [some (vr 135), some (vi (p : Int)), some (vi (s : Int)), some (vi (w : Int))], [vr 135]) (MS I J cc ss) _
  refine ev_n (fr' := (31, [some (vr 135), some (vi (p : Int)), some (vi (s : Int)), some (vi (w : Int))], [vi 0, vr 135])) (S' := MS I J cc ss) 2 rfl ?_
  refine ev_n (fr' := (34, [some (vr 135), some (vi (p : Int)), some (vi (s : Int)), some (vi (w : Int))], [])) (S' := MS (up2 I 135 4 0) J cc ss) 1 rfl ?_
  refine ev_n (fr' := (49, [some (vr 135), some (vi (p : Int)), some (vi (s : Int)), some (vi (w : Int))], [vi (w : Int), vi (s : Int), vi (p : Int), vr 135])) (S' := MS (up2 I 135 4 0) J cc ss) 7 rfl ?_
  refine ev_cv rfl rfl rfl ⟨Nat.le_of_ble_eq_true rfl, Nat.le_of_ble_eq_true rfl⟩ (sp_ofUse_r X _ _ _ _ p s w hg hwp hwi (by omega) (by omega) (by omega)) ?_
  show Ev X k_X9_use (52, [some (vr 135), some (vi (p : Int)), some (vi (s : Int)), some (vi (w : Int))], [vi (g (19 * p + 3 * s + w + 310))]) (MS (up2 I 135 4 0) J cc ss) _
  refine ev_r rfl rfl rfl ?_
  exact ⟨_, _, rfl, rfl, rfl, scrM.refl _⟩
theorem rb_uses_x (X : AX) (I J : Nat → Nat → Int) (cc ss : Nat) {g : F1} (y : Int) (hg : J 136 = g) (hws : WS g) (hwp : WP g) (hwi : WI g) (h : ¬ (0 ≤ y ∧ y < g 308)) : Ev X k_X9_uses (0, [some (vr 135), some (vi y)], []) (MS I J cc ss) (fun o T => o = .inl (some (vi 0)) ∧ T = MS (up2 I 135 4 1) J cc ss) := by
  have q0 := hws.1
  have q1 := hws.2.1
  have q2 := hwp.1
  have q3 := hwp.2.1
  have q4 := hwi.1
  have q5 := hwi.2.1
  refine ev_n (fr' := (3, [some (vr 135), some (vi y)], [vi y, vr 135, vr 135])) (S' := MS I J cc ss) 3 rfl ?_
  refine ev_cv rfl rfl rfl ⟨Nat.le_of_ble_eq_true rfl, Nat.le_of_ble_eq_true rfl⟩ (sp_isIcon_r X _ _ _ _ y hg hwi) ?_
  show Ev X k_X9_uses (6, [some (vr 135), some (vi y)], [vi (if 0 ≤ y ∧ y ≤ g 308 - 1 then 1 else 0), vr 135]) (MS I J cc ss) _
  refine ev_beq _ rfl (by decide) (fun (g1 : ¬ (0 ≤ y ∧ y ≤ g 308 - 1)) => ?_) (fun (g1 : 0 ≤ y ∧ y ≤ g 308 - 1) => False.elim ((show ¬ (0 ≤ y ∧ y ≤ g 308 - 1) from by omega) g1))
  show Ev X k_X9_uses (13, [some (vr 135), some (vi y)], [vr 135]) (MS I J cc ss) _
  refine ev_n (fr' := (14, [some (vr 135), some (vi y)], [vi 1, vr 135])) (S' := MS I J cc ss) 1 rfl ?_
  refine ev_n (fr' := (17, [some (vr 135), some (vi y)], [])) (S' := MS (up2 I 135 4 1) J cc ss) 1 rfl ?_
  refine ev_n (fr' := (33, [some (vr 135), some (vi y)], [vi 0])) (S' := MS (up2 I 135 4 1) J cc ss) 5 rfl ?_
  refine ev_r rfl rfl rfl ?_
  exact ⟨rfl, rfl⟩
theorem rb_uses (X : AX) (I J : Nat → Nat → Int) (cc ss : Nat) {g : F1} (k : Nat) (hg : J 136 = g) (hws : WS g) (hwp : WP g) (hwi : WI g) (hk : (k : Int) < g 308) : Ev X k_X9_uses (0, [some (vr 135), some (vi (k : Int))], []) (MS I J cc ss) (PV cc ss (some (vi (g (19 * k + 309)))) (fun I' J' => J' = J ∧ scrM (up2 I 135 4 0) I')) := by
  have q0 := hws.1
  have q1 := hws.2.1
  have q2 := hwp.1
  have q3 := hwp.2.1
  have q4 := hwi.1
  have q5 := hwi.2.1
  refine ev_n (fr' := (3, [some (vr 135), some (vi (k : Int))], [vi (k : Int), vr 135, vr 135])) (S' := MS I J cc ss) 3 rfl ?_
  refine ev_cv rfl rfl rfl ⟨Nat.le_of_ble_eq_true rfl, Nat.le_of_ble_eq_true rfl⟩ (sp_isIcon_r X _ _ _ _ (k : Int) hg hwi) ?_
  show Ev X k_X9_uses (6, [some (vr 135), some (vi (k : Int))], [vi (if 0 ≤ (k : Int) ∧ (k : Int) ≤ g 308 - 1 then 1 else 0), vr 135]) (MS I J cc ss) _
  refine ev_beq _ rfl (by decide) (fun (g1 : ¬ (0 ≤ (k : Int) ∧ (k : Int) ≤ g 308 - 1)) => False.elim (g1 (by omega))) (fun (g1 : 0 ≤ (k : Int) ∧ (k : Int) ≤ g 308 - 1) => ?_)
  show Ev X k_X9_uses (9, [some (vr 135), some (vi (k : Int))], [vr 135]) (MS I J cc ss) _
  refine ev_n (fr' := (14, [some (vr 135), some (vi (k : Int))], [vi 0, vr 135])) (S' := MS I J cc ss) 2 rfl ?_
  refine ev_n (fr' := (17, [some (vr 135), some (vi (k : Int))], [])) (S' := MS (up2 I 135 4 0) J cc ss) 1 rfl ?_
  refine ev_n (fr' := (30, [some (vr 135), some (vi (k : Int))], [vi (k : Int), vr 135])) (S' := MS (up2 I 135 4 0) J cc ss) 5 rfl ?_
  refine ev_cv rfl rfl rfl ⟨Nat.le_of_ble_eq_true rfl, Nat.le_of_ble_eq_true rfl⟩ (sp_usesOf_r X _ _ _ _ k hg hwi (by omega)) ?_
  show Ev X k_X9_uses (33, [some (vr 135), some (vi (k : Int))], [vi (g (19 * k + 309))]) (MS (up2 I 135 4 0) J cc ss) _
  refine ev_r rfl rfl rfl ?_
  exact ⟨_, _, rfl, rfl, rfl, scrM.refl _⟩
theorem rb_findPart (X : AX) (I J : Nat → Nat → Int) (cc ss : Nat) {g : F1} (x : Int) (n : Nat) (hg : J 136 = g) (hws : WS g) (hwp : WP g) (hwi : WI g) (hn : g 11 = (n : Int)) : Ev X k_X9_findPart (0, [some (vr 135), some (vl x), none], []) (MS I J cc ss) (PV cc ss (some (vi (fnd (fun r => g (r + 461)) x n 0))) (fun I' J' => J' = J ∧ scrM (up2 I 135 4 0) I')) := by
  have q0 := hws.1
  have q1 := hws.2.1
  have q2 := hwp.1
  have q3 := hwp.2.1
  have q4 := hwi.1
  have q5 := hwi.2.1
  refine ev_n (fr' := (2, [some (vr 135), some (vl x), none], [vi 0, vr 135])) (S' := MS I J cc ss) 2 rfl ?_
  refine ev_n (fr' := (5, [some (vr 135), some (vl x), none], [])) (S' := MS (up2 I 135 4 0) J cc ss) 1 rfl ?_
  refine ev_n (fr' := (15, [some (vr 135), some (vl x), none], [vi 11, vr 136, vi 461, vr 135])) (S' := MS (up2 I 135 4 0) J cc ss) 5 rfl ?_
  refine ev_laN (j := 11) (z := (g 11)) rfl rfl (by omega) (by omega) (congrFun hg _) ?_
  show Ev X k_X9_findPart (16, [some (vr 135), some (vl x), none], [vl (g 11), vi 461, vr 135]) (MS (up2 I 135 4 0) J cc ss) _
  refine ev_n (fr' := (17, [some (vr 135), some (vl x), none], [vl x, vl (g 11), vi 461, vr 135])) (S' := MS (up2 I 135 4 0) J cc ss) 1 rfl ?_
  rw [hn]
  refine ev_cv rfl rfl rfl ⟨Nat.le_of_ble_eq_true rfl, Nat.le_of_ble_eq_true rfl⟩ (sp_found_r X _ _ _ _ 461 n x hg (by omega) (by omega)) ?_
  show Ev X k_X9_findPart (20, [some (vr 135), some (vl x), none], [vi (fnd (fun r => g (461 + r)) x n 0)]) (MS (up2 I 135 4 0) J cc ss) _
  refine ev_r rfl rfl rfl ?_
  exact ⟨_, _, rfl, congrArg (fun z => Sum.inl (some (vi z))) (by rw [show (fun r => g (461 + r)) = (fun r => g (r + 461)) from funext (fun r => by rw [Nat.add_comm])]), rfl, scrM.refl _⟩
theorem rb_findIcon (X : AX) (I J : Nat → Nat → Int) (cc ss : Nat) {g : F1} (x : Int) (n : Nat) (hg : J 136 = g) (hws : WS g) (hwp : WP g) (hwi : WI g) (hn : g 308 = (n : Int)) : Ev X k_X9_findIcon (0, [some (vr 135), some (vl x), none], []) (MS I J cc ss) (PV cc ss (some (vi (fnd (fun r => g (r + 469)) x n 0))) (fun I' J' => J' = J ∧ scrM (up2 I 135 4 0) I')) := by
  have q0 := hws.1
  have q1 := hws.2.1
  have q2 := hwp.1
  have q3 := hwp.2.1
  have q4 := hwi.1
  have q5 := hwi.2.1
  refine ev_n (fr' := (2, [some (vr 135), some (vl x), none], [vi 0, vr 135])) (S' := MS I J cc ss) 2 rfl ?_
  refine ev_n (fr' := (5, [some (vr 135), some (vl x), none], [])) (S' := MS (up2 I 135 4 0) J cc ss) 1 rfl ?_
  refine ev_n (fr' := (16, [some (vr 135), some (vl x), none], [vi 308, vr 136, vi 469, vr 135])) (S' := MS (up2 I 135 4 0) J cc ss) 5 rfl ?_
  refine ev_laN (j := 308) (z := (g 308)) rfl rfl (by omega) (by omega) (congrFun hg _) ?_
  show Ev X k_X9_findIcon (17, [some (vr 135), some (vl x), none], [vl (g 308), vi 469, vr 135]) (MS (up2 I 135 4 0) J cc ss) _
  refine ev_n (fr' := (18, [some (vr 135), some (vl x), none], [vl x, vl (g 308), vi 469, vr 135])) (S' := MS (up2 I 135 4 0) J cc ss) 1 rfl ?_
  rw [hn]
  refine ev_cv rfl rfl rfl ⟨Nat.le_of_ble_eq_true rfl, Nat.le_of_ble_eq_true rfl⟩ (sp_found_r X _ _ _ _ 469 n x hg (by omega) (by omega)) ?_
  show Ev X k_X9_findIcon (21, [some (vr 135), some (vl x), none], [vi (fnd (fun r => g (469 + r)) x n 0)]) (MS (up2 I 135 4 0) J cc ss) _
  refine ev_r rfl rfl rfl ?_
  exact ⟨_, _, rfl, congrArg (fun z => Sum.inl (some (vi z))) (by rw [show (fun r => g (469 + r)) = (fun r => g (r + 469)) from funext (fun r => by rw [Nat.add_comm])]), rfl, scrM.refl _⟩
theorem rb_errorPosition (X : AX) (I J : Nat → Nat → Int) (cc ss : Nat) : Ev X k_X9_errorPosition (0, [some (vr 135)], []) (MS I J cc ss) (fun o T => o = .inl (some (vi (I 135 13))) ∧ T = MS (up2 I 135 4 0) J cc ss) := by
  refine ev_n (fr' := (2, [some (vr 135)], [vi 0, vr 135])) (S' := MS I J cc ss) 2 rfl ?_
  refine ev_n (fr' := (5, [some (vr 135)], [])) (S' := MS (up2 I 135 4 0) J cc ss) 1 rfl ?_
  refine ev_n (fr' := (9, [some (vr 135)], [vi (I 135 13)])) (S' := MS (up2 I 135 4 0) J cc ss) 2 rfl ?_
  refine ev_r rfl rfl rfl ?_
  exact ⟨rfl, rfl⟩
