/-! PUBLIC CHANGES, reference: what is thrown (printed by gen/g80.py) -/
theorem rb_removeSize_x (X : AX) (I J : Nat → Nat → Int) (cc ss : Nat) {g : F1} (y : Int) (hg : J 136 = g) (hws : WS g) (hwp : WP g) (hwi : WI g) (h : ¬ (0 ≤ y ∧ y < g 0)) : Ev X k_X9_removeSize (0, [some (vr 135), some (vi y), none, none], []) (MS I J cc ss) (fun o T => o = .inl (some (vi 0)) ∧ T = MS (up2 I 135 4 1) J cc ss) := by
  have q0 := hws.1
  have q1 := hws.2.1
  have q2 := hwp.1
  have q3 := hwp.2.1
  have q4 := hwi.1
  have q5 := hwi.2.1
  refine ev_n (fr' := (3, [some (vr 135), some (vi y), none, none], [vi y, vr 135, vr 135])) (S' := MS I J cc ss) 3 rfl ?_
  refine ev_cv rfl rfl rfl ⟨Nat.le_of_ble_eq_true rfl, Nat.le_of_ble_eq_true rfl⟩ (sp_isSize_r X _ _ _ _ y hg hws) ?_
  show Ev X k_X9_removeSize (6, [some (vr 135), some (vi y), none, none], [vi (if 0 ≤ y ∧ y ≤ g 0 - 1 then 1 else 0), vr 135]) (MS I J cc ss) _
  refine ev_beq _ rfl (by decide) (fun (g1 : ¬ (0 ≤ y ∧ y ≤ g 0 - 1)) => ?_) (fun (g1 : 0 ≤ y ∧ y ≤ g 0 - 1) => False.elim ((show ¬ (0 ≤ y ∧ y ≤ g 0 - 1) from by omega) g1))
  show Ev X k_X9_removeSize (13, [some (vr 135), some (vi y), none, none], [vr 135]) (MS I J cc ss) _
  refine ev_n (fr' := (14, [some (vr 135), some (vi y), none, none], [vi 1, vr 135])) (S' := MS I J cc ss) 1 rfl ?_
  refine ev_n (fr' := (17, [some (vr 135), some (vi y), none, none], [])) (S' := MS (up2 I 135 4 1) J cc ss) 1 rfl ?_
  refine ev_n (fr' := (25, [some (vr 135), some (vi y), none, none], [vi 0])) (S' := MS (up2 I 135 4 1) J cc ss) 4 rfl ?_
  refine ev_r rfl rfl rfl ?_
  exact ⟨rfl, rfl⟩
theorem rb_setExtra_x (X : AX) (I J : Nat → Nat → Int) (cc ss : Nat) {g : F1} (y z : Int) (hg : J 136 = g) (hws : WS g) (hwp : WP g) (hwi : WI g) (h : ¬ (0 ≤ y ∧ y < g 0)) : Ev X k_X9_setExtra (0, [some (vr 135), some (vi y), some (vi z), none], []) (MS I J cc ss) (fun o T => o = .inl (some (vi 0)) ∧ T = MS (up2 I 135 4 1) J cc ss) := by
  have q0 := hws.1
  have q1 := hws.2.1
  have q2 := hwp.1
  have q3 := hwp.2.1
  have q4 := hwi.1
  have q5 := hwi.2.1
  refine ev_n (fr' := (3, [some (vr 135), some (vi y), some (vi z), none], [vi y, vr 135, vr 135])) (S' := MS I J cc ss) 3 rfl ?_
  refine ev_cv rfl rfl rfl ⟨Nat.le_of_ble_eq_true rfl, Nat.le_of_ble_eq_true rfl⟩ (sp_isSize_r X _ _ _ _ y hg hws) ?_
  show Ev X k_X9_setExtra (6, [some (vr 135), some (vi y), some (vi z), none], [vi (if 0 ≤ y ∧ y ≤ g 0 - 1 then 1 else 0), vr 135]) (MS I J cc ss) _
  refine ev_bne _ rfl (by decide) (fun (g1 : 0 ≤ y ∧ y ≤ g 0 - 1) => False.elim ((show ¬ (0 ≤ y ∧ y ≤ g 0 - 1) from by omega) g1)) (fun (g1 : ¬ (0 ≤ y ∧ y ≤ g 0 - 1)) => ?_)
  show Ev X k_X9_setExtra (9, [some (vr 135), some (vi y), some (vi z), none], [vr 135]) (MS I J cc ss) _
  refine ev_n (fr' := (32, [some (vr 135), some (vi y), some (vi z), none], [vi 1, vr 135])) (S' := MS I J cc ss) 2 rfl ?_
  refine ev_n (fr' := (35, [some (vr 135), some (vi y), some (vi z), none], [])) (S' := MS (up2 I 135 4 1) J cc ss) 1 rfl ?_
  refine ev_n (fr' := (43, [some (vr 135), some (vi y), some (vi z), none], [vi 0])) (S' := MS (up2 I 135 4 1) J cc ss) 4 rfl ?_
  refine ev_r rfl rfl rfl ?_
  exact ⟨rfl, rfl⟩
theorem rb_setExtra_y (X : AX) (I J : Nat → Nat → Int) (cc ss : Nat) {g : F1} (k : Nat) (z : Int) (hg : J 136 = g) (hws : WS g) (hwp : WP g) (hwi : WI g) (hk : (k : Int) < g 0) (h : ¬ (-2 ≤ z ∧ z ≤ 2)) : Ev X k_X9_setExtra (0, [some (vr 135), some (vi (k : Int)), some (vi z), none], []) (MS I J cc ss) (fun o T => o = .inl (some (vi 0)) ∧ T = MS (up2 I 135 4 2) J cc ss) := by
  have q0 := hws.1
  have q1 := hws.2.1
  have q2 := hwp.1
  have q3 := hwp.2.1
  have q4 := hwi.1
  have q5 := hwi.2.1
  refine ev_n (fr' := (3, [some (vr 135), some (vi (k : Int)), some (vi z), none], [vi (k : Int), vr 135, vr 135])) (S' := MS I J cc ss) 3 rfl ?_
  refine ev_cv rfl rfl rfl ⟨Nat.le_of_ble_eq_true rfl, Nat.le_of_ble_eq_true rfl⟩ (sp_isSize_r X _ _ _ _ (k : Int) hg hws) ?_
  show Ev X k_X9_setExtra (6, [some (vr 135), some (vi (k : Int)), some (vi z), none], [vi (if 0 ≤ (k : Int) ∧ (k : Int) ≤ g 0 - 1 then 1 else 0), vr 135]) (MS I J cc ss) _
  refine ev_bne _ rfl (by decide) (fun (g1 : 0 ≤ (k : Int) ∧ (k : Int) ≤ g 0 - 1) => ?_) (fun (g1 : ¬ (0 ≤ (k : Int) ∧ (k : Int) ≤ g 0 - 1)) => False.elim (g1 (by omega)))
  show Ev X k_X9_setExtra (13, [some (vr 135), some (vi (k : Int)), some (vi z), none], [vr 135]) (MS I J cc ss) _
  refine ev_n (fr' := (21, [some (vr 135), some (vi (k : Int)), some (vi z), none], [vl 2, vl (-2), vl z, vr 135])) (S' := MS I J cc ss) 4 rfl ?_
  refine ev_cv rfl rfl rfl ⟨Nat.le_of_ble_eq_true rfl, Nat.le_of_ble_eq_true rfl⟩ (sp_isIn X _ z (-2) 2 ) ?_
  show Ev X k_X9_setExtra (24, [some (vr 135), some (vi (k : Int)), some (vi z), none], [vi (if -2 ≤ z ∧ z ≤ 2 then 1 else 0), vr 135]) (MS I J cc ss) _
  refine ev_beq _ rfl (by decide) (fun (g2 : ¬ (-2 ≤ z ∧ z ≤ 2)) => ?_) (fun (g2 : -2 ≤ z ∧ z ≤ 2) => False.elim ((show ¬ (-2 ≤ z ∧ z ≤ 2) from by omega) g2))
  show Ev X k_X9_setExtra (31, [some (vr 135), some (vi (k : Int)), some (vi z), none], [vr 135]) (MS I J cc ss) _
  refine ev_n (fr' := (32, [some (vr 135), some (vi (k : Int)), some (vi z), none], [vi 2, vr 135])) (S' := MS I J cc ss) 1 rfl ?_
  refine ev_n (fr' := (35, [some (vr 135), some (vi (k : Int)), some (vi z), none], [])) (S' := MS (up2 I 135 4 2) J cc ss) 1 rfl ?_
  refine ev_n (fr' := (43, [some (vr 135), some (vi (k : Int)), some (vi z), none], [vi 0])) (S' := MS (up2 I 135 4 2) J cc ss) 4 rfl ?_
  refine ev_r rfl rfl rfl ?_
  exact ⟨rfl, rfl⟩
theorem rb_removeUse_x (X : AX) (I J : Nat → Nat → Int) (cc ss : Nat) {g : F1} (y t : Int) (hg : J 136 = g) (hws : WS g) (hwp : WP g) (hwi : WI g) (h : ¬ (0 ≤ y ∧ y < g 308)) : Ev X k_X9_removeUse (0, [some (vr 135), some (vi y), some (vi t), none, none], []) (MS I J cc ss) (fun o T => o = .inl (some (vi 0)) ∧ T = MS (up2 I 135 4 1) J cc ss) := by
  have q0 := hws.1
  have q1 := hws.2.1
  have q2 := hwp.1
  have q3 := hwp.2.1
  have q4 := hwi.1
  have q5 := hwi.2.1
  refine ev_n (fr' := (4, [some (vr 135), some (vi y), some (vi t), none, none], [vi t, vi y, vr 135, vr 135])) (S' := MS I J cc ss) 4 rfl ?_
  refine ev_cv rfl rfl rfl ⟨Nat.le_of_ble_eq_true rfl, Nat.le_of_ble_eq_true rfl⟩ (sp_isUse_0 X _ _ _ _ y t hg hws hwp hwi h) ?_
  show Ev X k_X9_removeUse (7, [some (vr 135), some (vi y), some (vi t), none, none], [vi 0, vr 135]) (MS I J cc ss) _
  refine ev_n (fr' := (15, [some (vr 135), some (vi y), some (vi t), none, none], [vi 1, vr 135])) (S' := MS I J cc ss) 2 rfl ?_
  refine ev_n (fr' := (18, [some (vr 135), some (vi y), some (vi t), none, none], [])) (S' := MS (up2 I 135 4 1) J cc ss) 1 rfl ?_
  refine ev_n (fr' := (26, [some (vr 135), some (vi y), some (vi t), none, none], [vi 0])) (S' := MS (up2 I 135 4 1) J cc ss) 4 rfl ?_
  refine ev_r rfl rfl rfl ?_
  exact ⟨rfl, rfl⟩
theorem rb_removeUse_y (X : AX) (I J : Nat → Nat → Int) (cc ss : Nat) {g : F1} (p : Nat) (t : Int) (hg : J 136 = g) (hws : WS g) (hwp : WP g) (hwi : WI g) (hp : (p : Int) < g 308) (h : ¬ (0 ≤ t ∧ t < g (19 * p + 309))) : Ev X k_X9_removeUse (0, [some (vr 135), some (vi (p : Int)), some (vi t), none, none], []) (MS I J cc ss) (fun o T => o = .inl (some (vi 0)) ∧ T = MS (up2 I 135 4 1) J cc ss) := by
  have q0 := hws.1
  have q1 := hws.2.1
  have q2 := hwp.1
  have q3 := hwp.2.1
  have q4 := hwi.1
  have q5 := hwi.2.1
  refine ev_n (fr' := (4, [some (vr 135), some (vi (p : Int)), some (vi t), none, none], [vi t, vi (p : Int), vr 135, vr 135])) (S' := MS I J cc ss) 4 rfl ?_
  refine ev_cv rfl rfl rfl ⟨Nat.le_of_ble_eq_true rfl, Nat.le_of_ble_eq_true rfl⟩ (sp_isUse_n X _ _ _ _ p t hg hws hwp hwi (by omega)) ?_
  show Ev X k_X9_removeUse (7, [some (vr 135), some (vi (p : Int)), some (vi t), none, none], [vi (if 0 ≤ t ∧ t < g (19 * p + 309) then 1 else 0), vr 135]) (MS I J cc ss) _
  refine ev_beq _ rfl (by decide) (fun (g1 : ¬ (0 ≤ t ∧ t < g (19 * p + 309))) => ?_) (fun (g1 : 0 ≤ t ∧ t < g (19 * p + 309)) => False.elim ((h) g1))
  show Ev X k_X9_removeUse (14, [some (vr 135), some (vi (p : Int)), some (vi t), none, none], [vr 135]) (MS I J cc ss) _
  refine ev_n (fr' := (15, [some (vr 135), some (vi (p : Int)), some (vi t), none, none], [vi 1, vr 135])) (S' := MS I J cc ss) 1 rfl ?_
  refine ev_n (fr' := (18, [some (vr 135), some (vi (p : Int)), some (vi t), none, none], [])) (S' := MS (up2 I 135 4 1) J cc ss) 1 rfl ?_
  refine ev_n (fr' := (26, [some (vr 135), some (vi (p : Int)), some (vi t), none, none], [vi 0])) (S' := MS (up2 I 135 4 1) J cc ss) 4 rfl ?_
  refine ev_r rfl rfl rfl ?_
  exact ⟨rfl, rfl⟩
theorem rb_removeShape_x (X : AX) (I J : Nat → Nat → Int) (cc ss : Nat) {g : F1} (y t : Int) (hg : J 136 = g) (hws : WS g) (hwp : WP g) (hwi : WI g) (h : ¬ (0 ≤ y ∧ y < g 11)) : Ev X k_X9_removeShape (0, [some (vr 135), some (vi y), some (vi t), none, none], []) (MS I J cc ss) (fun o T => o = .inl (some (vi 0)) ∧ T = MS (up2 I 135 4 1) J cc ss) := by
  have q0 := hws.1
  have q1 := hws.2.1
  have q2 := hwp.1
  have q3 := hwp.2.1
  have q4 := hwi.1
  have q5 := hwi.2.1
  refine ev_n (fr' := (4, [some (vr 135), some (vi y), some (vi t), none, none], [vi t, vi y, vr 135, vr 135])) (S' := MS I J cc ss) 4 rfl ?_
  refine ev_cv rfl rfl rfl ⟨Nat.le_of_ble_eq_true rfl, Nat.le_of_ble_eq_true rfl⟩ (sp_isShape_0 X _ _ _ _ y t hg hws hwp hwi h) ?_
  show Ev X k_X9_removeShape (7, [some (vr 135), some (vi y), some (vi t), none, none], [vi 0, vr 135]) (MS I J cc ss) _
  refine ev_n (fr' := (28, [some (vr 135), some (vi y), some (vi t), none, none], [vi 1, vr 135])) (S' := MS I J cc ss) 3 rfl ?_
  refine ev_n (fr' := (31, [some (vr 135), some (vi y), some (vi t), none, none], [])) (S' := MS (up2 I 135 4 1) J cc ss) 1 rfl ?_
  refine ev_n (fr' := (39, [some (vr 135), some (vi y), some (vi t), none, none], [vi 0])) (S' := MS (up2 I 135 4 1) J cc ss) 4 rfl ?_
  refine ev_r rfl rfl rfl ?_
  exact ⟨rfl, rfl⟩
theorem rb_removeShape_y (X : AX) (I J : Nat → Nat → Int) (cc ss : Nat) {g : F1} (p : Nat) (t : Int) (hg : J 136 = g) (hws : WS g) (hwp : WP g) (hwi : WI g) (hp : (p : Int) < g 11) (h : ¬ (0 ≤ t ∧ t < g (37 * p + 12))) : Ev X k_X9_removeShape (0, [some (vr 135), some (vi (p : Int)), some (vi t), none, none], []) (MS I J cc ss) (fun o T => o = .inl (some (vi 0)) ∧ T = MS (up2 I 135 4 1) J cc ss) := by
  have q0 := hws.1
  have q1 := hws.2.1
  have q2 := hwp.1
  have q3 := hwp.2.1
  have q4 := hwi.1
  have q5 := hwi.2.1
  refine ev_n (fr' := (4, [some (vr 135), some (vi (p : Int)), some (vi t), none, none], [vi t, vi (p : Int), vr 135, vr 135])) (S' := MS I J cc ss) 4 rfl ?_
  refine ev_cv rfl rfl rfl ⟨Nat.le_of_ble_eq_true rfl, Nat.le_of_ble_eq_true rfl⟩ (sp_isShape_n X _ _ _ _ p t hg hws hwp hwi (by omega)) ?_
  show Ev X k_X9_removeShape (7, [some (vr 135), some (vi (p : Int)), some (vi t), none, none], [vi (if 0 ≤ t ∧ t < g (37 * p + 12) then 1 else 0), vr 135]) (MS I J cc ss) _
  refine ev_bne _ rfl (by decide) (fun (g1 : 0 ≤ t ∧ t < g (37 * p + 12)) => False.elim ((h) g1)) (fun (g1 : ¬ (0 ≤ t ∧ t < g (37 * p + 12))) => ?_)
  show Ev X k_X9_removeShape (10, [some (vr 135), some (vi (p : Int)), some (vi t), none, none], [vr 135]) (MS I J cc ss) _
  refine ev_n (fr' := (28, [some (vr 135), some (vi (p : Int)), some (vi t), none, none], [vi 1, vr 135])) (S' := MS I J cc ss) 2 rfl ?_
  refine ev_n (fr' := (31, [some (vr 135), some (vi (p : Int)), some (vi t), none, none], [])) (S' := MS (up2 I 135 4 1) J cc ss) 1 rfl ?_
  refine ev_n (fr' := (39, [some (vr 135), some (vi (p : Int)), some (vi t), none, none], [vi 0])) (S' := MS (up2 I 135 4 1) J cc ss) 4 rfl ?_
  refine ev_r rfl rfl rfl ?_
  exact ⟨rfl, rfl⟩
theorem rb_moveUse_x (X : AX) (I J : Nat → Nat → Int) (cc ss : Nat) {g : F1} (y t u v : Int) (hg : J 136 = g) (hws : WS g) (hwp : WP g) (hwi : WI g) (h : ¬ (0 ≤ y ∧ y < g 308)) : Ev X k_X9_moveUse (0, [some (vr 135), some (vi y), some (vi t), some (vi u), some (vi v)], []) (MS I J cc ss) (fun o T => o = .inl (some (vi 0)) ∧ T = MS (up2 I 135 4 1) J cc ss) := by
  have q0 := hws.1
  have q1 := hws.2.1
  have q2 := hwp.1
  have q3 := hwp.2.1
  have q4 := hwi.1
  have q5 := hwi.2.1
  refine ev_n (fr' := (4, [some (vr 135), some (vi y), some (vi t), some (vi u), some (vi v)], [vi t, vi y, vr 135, vr 135])) (S' := MS I J cc ss) 4 rfl ?_
  refine ev_cv rfl rfl rfl ⟨Nat.le_of_ble_eq_true rfl, Nat.le_of_ble_eq_true rfl⟩ (sp_isUse_0 X _ _ _ _ y t hg hws hwp hwi h) ?_
  show Ev X k_X9_moveUse (7, [some (vr 135), some (vi y), some (vi t), some (vi u), some (vi v)], [vi 0, vr 135]) (MS I J cc ss) _
  refine ev_n (fr' := (34, [some (vr 135), some (vi y), some (vi t), some (vi u), some (vi v)], [vi 1, vr 135])) (S' := MS I J cc ss) 3 rfl ?_
  refine ev_n (fr' := (37, [some (vr 135), some (vi y), some (vi t), some (vi u), some (vi v)], [])) (S' := MS (up2 I 135 4 1) J cc ss) 1 rfl ?_
  refine ev_n (fr' := (45, [some (vr 135), some (vi y), some (vi t), some (vi u), some (vi v)], [vi 0])) (S' := MS (up2 I 135 4 1) J cc ss) 4 rfl ?_
  refine ev_r rfl rfl rfl ?_
  exact ⟨rfl, rfl⟩
theorem rb_moveUse_y (X : AX) (I J : Nat → Nat → Int) (cc ss : Nat) {g : F1} (p : Nat) (t u v : Int) (hg : J 136 = g) (hws : WS g) (hwp : WP g) (hwi : WI g) (hp : (p : Int) < g 308) (h : ¬ (0 ≤ t ∧ t < g (19 * p + 309))) : Ev X k_X9_moveUse (0, [some (vr 135), some (vi (p : Int)), some (vi t), some (vi u), some (vi v)], []) (MS I J cc ss) (fun o T => o = .inl (some (vi 0)) ∧ T = MS (up2 I 135 4 1) J cc ss) := by
  have q0 := hws.1
  have q1 := hws.2.1
  have q2 := hwp.1
  have q3 := hwp.2.1
  have q4 := hwi.1
  have q5 := hwi.2.1
  refine ev_n (fr' := (4, [some (vr 135), some (vi (p : Int)), some (vi t), some (vi u), some (vi v)], [vi t, vi (p : Int), vr 135, vr 135])) (S' := MS I J cc ss) 4 rfl ?_
  refine ev_cv rfl rfl rfl ⟨Nat.le_of_ble_eq_true rfl, Nat.le_of_ble_eq_true rfl⟩ (sp_isUse_n X _ _ _ _ p t hg hws hwp hwi (by omega)) ?_
  show Ev X k_X9_moveUse (7, [some (vr 135), some (vi (p : Int)), some (vi t), some (vi u), some (vi v)], [vi (if 0 ≤ t ∧ t < g (19 * p + 309) then 1 else 0), vr 135]) (MS I J cc ss) _
  refine ev_bne _ rfl (by decide) (fun (g1 : 0 ≤ t ∧ t < g (19 * p + 309)) => False.elim ((h) g1)) (fun (g1 : ¬ (0 ≤ t ∧ t < g (19 * p + 309))) => ?_)
  show Ev X k_X9_moveUse (10, [some (vr 135), some (vi (p : Int)), some (vi t), some (vi u), some (vi v)], [vr 135]) (MS I J cc ss) _
  refine ev_n (fr' := (34, [some (vr 135), some (vi (p : Int)), some (vi t), some (vi u), some (vi v)], [vi 1, vr 135])) (S' := MS I J cc ss) 2 rfl ?_
  refine ev_n (fr' := (37, [some (vr 135), some (vi (p : Int)), some (vi t), some (vi u), some (vi v)], [])) (S' := MS (up2 I 135 4 1) J cc ss) 1 rfl ?_
  refine ev_n (fr' := (45, [some (vr 135), some (vi (p : Int)), some (vi t), some (vi u), some (vi v)], [vi 0])) (S' := MS (up2 I 135 4 1) J cc ss) 4 rfl ?_
  refine ev_r rfl rfl rfl ?_
  exact ⟨rfl, rfl⟩
theorem rb_moveUse_z (X : AX) (I J : Nat → Nat → Int) (cc ss : Nat) {g : F1} (p s : Nat) (x y : Int) (hg : J 136 = g) (hws : WS g) (hwp : WP g) (hwi : WI g) (hp : (p : Int) < g 308) (hs2 : (s : Int) < g (19 * p + 309)) (h : ¬ (-48 ≤ x ∧ x ≤ 48)) : Ev X k_X9_moveUse (0, [some (vr 135), some (vi (p : Int)), some (vi (s : Int)), some (vi x), some (vi y)], []) (MS I J cc ss) (fun o T => o = .inl (some (vi 0)) ∧ T = MS (up2 I 135 4 2) J cc ss) := by
  have q0 := hws.1
  have q1 := hws.2.1
  have q2 := hwp.1
  have q3 := hwp.2.1
  have q4 := hwi.1
  have q5 := hwi.2.1
  refine ev_n (fr' := (4, [some (vr 135), some (vi (p : Int)), some (vi (s : Int)), some (vi x), some (vi y)], [vi (s : Int), vi (p : Int), vr 135, vr 135])) (S' := MS I J cc ss) 4 rfl ?_
  refine ev_cv rfl rfl rfl ⟨Nat.le_of_ble_eq_true rfl, Nat.le_of_ble_eq_true rfl⟩ (sp_isUse_n X _ _ _ _ p (s : Int) hg hws hwp hwi (by omega)) ?_
  show Ev X k_X9_moveUse (7, [some (vr 135), some (vi (p : Int)), some (vi (s : Int)), some (vi x), some (vi y)], [vi (if 0 ≤ (s : Int) ∧ (s : Int) < g (19 * p + 309) then 1 else 0), vr 135]) (MS I J cc ss) _
  refine ev_bne _ rfl (by decide) (fun (g1 : 0 ≤ (s : Int) ∧ (s : Int) < g (19 * p + 309)) => ?_) (fun (g1 : ¬ (0 ≤ (s : Int) ∧ (s : Int) < g (19 * p + 309))) => False.elim (g1 (by omega)))
  show Ev X k_X9_moveUse (14, [some (vr 135), some (vi (p : Int)), some (vi (s : Int)), some (vi x), some (vi y)], [vr 135]) (MS I J cc ss) _
  refine ev_n (fr' := (15, [some (vr 135), some (vi (p : Int)), some (vi (s : Int)), some (vi x), some (vi y)], [vi x, vr 135])) (S' := MS I J cc ss) 1 rfl ?_
  refine ev_cv rfl rfl rfl ⟨Nat.le_of_ble_eq_true rfl, Nat.le_of_ble_eq_true rfl⟩ (sp_isShift X _ x ) ?_
  show Ev X k_X9_moveUse (18, [some (vr 135), some (vi (p : Int)), some (vi (s : Int)), some (vi x), some (vi y)], [vi (if -48 ≤ x ∧ x ≤ 48 then 1 else 0), vr 135]) (MS I J cc ss) _
  refine ev_beq _ rfl (by decide) (fun (g2 : ¬ (-48 ≤ x ∧ x ≤ 48)) => ?_) (fun (g2 : -48 ≤ x ∧ x ≤ 48) => False.elim ((h) g2))
  show Ev X k_X9_moveUse (29, [some (vr 135), some (vi (p : Int)), some (vi (s : Int)), some (vi x), some (vi y)], [vr 135]) (MS I J cc ss) _
  refine ev_n (fr' := (34, [some (vr 135), some (vi (p : Int)), some (vi (s : Int)), some (vi x), some (vi y)], [vi 2, vr 135])) (S' := MS I J cc ss) 2 rfl ?_
  refine ev_n (fr' := (37, [some (vr 135), some (vi (p : Int)), some (vi (s : Int)), some (vi x), some (vi y)], [])) (S' := MS (up2 I 135 4 2) J cc ss) 1 rfl ?_
  refine ev_n (fr' := (45, [some (vr 135), some (vi (p : Int)), some (vi (s : Int)), some (vi x), some (vi y)], [vi 0])) (S' := MS (up2 I 135 4 2) J cc ss) 4 rfl ?_
  refine ev_r rfl rfl rfl ?_
  exact ⟨rfl, rfl⟩
theorem rb_moveUse_w (X : AX) (I J : Nat → Nat → Int) (cc ss : Nat) {g : F1} (p s : Nat) (x y : Int) (hg : J 136 = g) (hws : WS g) (hwp : WP g) (hwi : WI g) (hp : (p : Int) < g 308) (hs2 : (s : Int) < g (19 * p + 309)) (h1 : -48 ≤ x ∧ x ≤ 48) (h : ¬ (-48 ≤ y ∧ y ≤ 48)) : Ev X k_X9_moveUse (0, [some (vr 135), some (vi (p : Int)), some (vi (s : Int)), some (vi x), some (vi y)], []) (MS I J cc ss) (fun o T => o = .inl (some (vi 0)) ∧ T = MS (up2 I 135 4 2) J cc ss) := by
  have q0 := hws.1
  have q1 := hws.2.1
  have q2 := hwp.1
  have q3 := hwp.2.1
  have q4 := hwi.1
  have q5 := hwi.2.1
  refine ev_n (fr' := (4, [some (vr 135), some (vi (p : Int)), some (vi (s : Int)), some (vi x), some (vi y)], [vi (s : Int), vi (p : Int), vr 135, vr 135])) (S' := MS I J cc ss) 4 rfl ?_
  refine ev_cv rfl rfl rfl ⟨Nat.le_of_ble_eq_true rfl, Nat.le_of_ble_eq_true rfl⟩ (sp_isUse_n X _ _ _ _ p (s : Int) hg hws hwp hwi (by omega)) ?_
  show Ev X k_X9_moveUse (7, [some (vr 135), some (vi (p : Int)), some (vi (s : Int)), some (vi x), some (vi y)], [vi (if 0 ≤ (s : Int) ∧ (s : Int) < g (19 * p + 309) then 1 else 0), vr 135]) (MS I J cc ss) _
  refine ev_bne _ rfl (by decide) (fun (g1 : 0 ≤ (s : Int) ∧ (s : Int) < g (19 * p + 309)) => ?_) (fun (g1 : ¬ (0 ≤ (s : Int) ∧ (s : Int) < g (19 * p + 309))) => False.elim (g1 (by omega)))
  show Ev X k_X9_moveUse (14, [some (vr 135), some (vi (p : Int)), some (vi (s : Int)), some (vi x), some (vi y)], [vr 135]) (MS I J cc ss) _
  refine ev_n (fr' := (15, [some (vr 135), some (vi (p : Int)), some (vi (s : Int)), some (vi x), some (vi y)], [vi x, vr 135])) (S' := MS I J cc ss) 1 rfl ?_
  refine ev_cv rfl rfl rfl ⟨Nat.le_of_ble_eq_true rfl, Nat.le_of_ble_eq_true rfl⟩ (sp_isShift X _ x ) ?_
  show Ev X k_X9_moveUse (18, [some (vr 135), some (vi (p : Int)), some (vi (s : Int)), some (vi x), some (vi y)], [vi (if -48 ≤ x ∧ x ≤ 48 then 1 else 0), vr 135]) (MS I J cc ss) _
  refine ev_beq _ rfl (by decide) (fun (g2 : ¬ (-48 ≤ x ∧ x ≤ 48)) => False.elim (g2 (h1))) (fun (g2 : -48 ≤ x ∧ x ≤ 48) => ?_)
  show Ev X k_X9_moveUse (21, [some (vr 135), some (vi (p : Int)), some (vi (s : Int)), some (vi x), some (vi y)], [vr 135]) (MS I J cc ss) _
  refine ev_n (fr' := (23, [some (vr 135), some (vi (p : Int)), some (vi (s : Int)), some (vi x), some (vi y)], [vi y, vr 135])) (S' := MS I J cc ss) 1 rfl ?_
  refine ev_cv rfl rfl rfl ⟨Nat.le_of_ble_eq_true rfl, Nat.le_of_ble_eq_true rfl⟩ (sp_isShift X _ y ) ?_
  show Ev X k_X9_moveUse (26, [some (vr 135), some (vi (p : Int)), some (vi (s : Int)), some (vi x), some (vi y)], [vi (if -48 ≤ y ∧ y ≤ 48 then 1 else 0), vr 135]) (MS I J cc ss) _
  refine ev_bne _ rfl (by decide) (fun (g3 : -48 ≤ y ∧ y ≤ 48) => False.elim ((h) g3)) (fun (g3 : ¬ (-48 ≤ y ∧ y ≤ 48)) => ?_)
  show Ev X k_X9_moveUse (29, [some (vr 135), some (vi (p : Int)), some (vi (s : Int)), some (vi x), some (vi y)], [vr 135]) (MS I J cc ss) _
  refine ev_n (fr' := (34, [some (vr 135), some (vi (p : Int)), some (vi (s : Int)), some (vi x), some (vi y)], [vi 2, vr 135])) (S' := MS I J cc ss) 2 rfl ?_
  refine ev_n (fr' := (37, [some (vr 135), some (vi (p : Int)), some (vi (s : Int)), some (vi x), some (vi y)], [])) (S' := MS (up2 I 135 4 2) J cc ss) 1 rfl ?_
  refine ev_n (fr' := (45, [some (vr 135), some (vi (p : Int)), some (vi (s : Int)), some (vi x), some (vi y)], [vi 0])) (S' := MS (up2 I 135 4 2) J cc ss) 4 rfl ?_
  refine ev_r rfl rfl rfl ?_
  exact ⟨rfl, rfl⟩
theorem rb_removeShape_z (X : AX) (I J : Nat → Nat → Int) (cc ss : Nat) {g : F1} (p s : Nat) (hg : J 136 = g) (hws : WS g) (hwp : WP g) (hwi : WI g) (hp : (p : Int) < g 11) (hs2 : (s : Int) < g (37 * p + 12)) (h : g (37 * p + 12) ≤ 1) : Ev X k_X9_removeShape (0, [some (vr 135), some (vi (p : Int)), some (vi (s : Int)), none, none], []) (MS I J cc ss) (fun o T => o = .inl (some (vi 0)) ∧ T = MS (up2 I 135 4 2) J cc ss) := by
  have q0 := hws.1
  have q1 := hws.2.1
  have q2 := hwp.1
  have q3 := hwp.2.1
  have q4 := hwi.1
  have q5 := hwi.2.1
  have hr := (hwp.2.2 p hp).2.1
  have hr1 := (hwp.2.2 p hp).1
  refine ev_n (fr' := (4, [some (vr 135), some (vi (p : Int)), some (vi (s : Int)), none, none], [vi (s : Int), vi (p : Int), vr 135, vr 135])) (S' := MS I J cc ss) 4 rfl ?_
  refine ev_cv rfl rfl rfl ⟨Nat.le_of_ble_eq_true rfl, Nat.le_of_ble_eq_true rfl⟩ (sp_isShape_n X _ _ _ _ p (s : Int) hg hws hwp hwi (by omega)) ?_
  show Ev X k_X9_removeShape (7, [some (vr 135), some (vi (p : Int)), some (vi (s : Int)), none, none], [vi (if 0 ≤ (s : Int) ∧ (s : Int) < g (37 * p + 12) then 1 else 0), vr 135]) (MS I J cc ss) _
  refine ev_bne _ rfl (by decide) (fun (g1 : 0 ≤ (s : Int) ∧ (s : Int) < g (37 * p + 12)) => ?_) (fun (g1 : ¬ (0 ≤ (s : Int) ∧ (s : Int) < g (37 * p + 12))) => False.elim (g1 (by omega)))
  show Ev X k_X9_removeShape (14, [some (vr 135), some (vi (p : Int)), some (vi (s : Int)), none, none], [vr 135]) (MS I J cc ss) _
  refine ev_n (fr' := (16, [some (vr 135), some (vi (p : Int)), some (vi (s : Int)), none, none], [vi (p : Int), vr 135, vr 135])) (S' := MS I J cc ss) 2 rfl ?_
  refine ev_cv rfl rfl rfl ⟨Nat.le_of_ble_eq_true rfl, Nat.le_of_ble_eq_true rfl⟩ (sp_shapesOf_r X _ _ _ _ p hg hwp (by omega)) ?_
  show Ev X k_X9_removeShape (19, [some (vr 135), some (vi (p : Int)), some (vi (s : Int)), none, none], [vi (g (37 * p + 12)), vr 135]) (MS I J cc ss) _
  refine ev_n (fr' := (20, [some (vr 135), some (vi (p : Int)), some (vi (s : Int)), none, none], [vi 1, vi (g (37 * p + 12)), vr 135])) (S' := MS I J cc ss) 1 rfl ?_
  refine ev_ic (c := .ne) (off := 7) rfl (by decide) (fun (g2 : (g (37 * p + 12)) ≠ 1) => False.elim (by omega)) (fun (g2 : ¬ ((g (37 * p + 12)) ≠ 1)) => ?_)
  show Ev X k_X9_removeShape (23, [some (vr 135), some (vi (p : Int)), some (vi (s : Int)), none, none], [vr 135]) (MS I J cc ss) _
  refine ev_n (fr' := (28, [some (vr 135), some (vi (p : Int)), some (vi (s : Int)), none, none], [vi 2, vr 135])) (S' := MS I J cc ss) 2 rfl ?_
  refine ev_n (fr' := (31, [some (vr 135), some (vi (p : Int)), some (vi (s : Int)), none, none], [])) (S' := MS (up2 I 135 4 2) J cc ss) 1 rfl ?_
  refine ev_n (fr' := (39, [some (vr 135), some (vi (p : Int)), some (vi (s : Int)), none, none], [vi 0])) (S' := MS (up2 I 135 4 2) J cc ss) 4 rfl ?_
  refine ev_r rfl rfl rfl ?_
  exact ⟨rfl, rfl⟩
