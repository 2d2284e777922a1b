/-! PUBLIC CHANGES, reference (printed by gen/g85.py) -/
theorem rb_moveShape_x (X : AX) (I J : Nat → Nat → Int) (cc ss : Nat) {g : F1} (u t x y : Int) (hg : J 136 = g) (hws : WS g) (hwp : WP g) (hwi : WI g) (h : ¬ (0 ≤ u ∧ u < g 11)) : Ev X k_X9_moveShape (0, [some (vr 135), some (vi u), some (vi t), some (vi x), some (vi y)], []) (MS I J cc ss) (fun o T => o = .inl (some (vi 0)) ∧ T = MS (up2 I 135 4 1) J cc ss) := by
  have q0 := hws.1
  have q1 := hws.2.1
  have q2 := hwp.1
  have q3 := hwp.2.1
  have q4 := hwi.1
  have q5 := hwi.2.1
  refine ev_n (fr' := (4, [some (vr 135), some (vi u), some (vi t), some (vi x), some (vi y)], [vi t, vi u, vr 135, vr 135])) (S' := MS I J cc ss) 4 rfl ?_
  refine ev_cv rfl rfl rfl ⟨Nat.le_of_ble_eq_true rfl, Nat.le_of_ble_eq_true rfl⟩ (sp_isShape_0 X _ _ _ _ u t hg hws hwp hwi h) ?_
  show Ev X k_X9_moveShape (7, [some (vr 135), some (vi u), some (vi t), some (vi x), some (vi y)], [vi 0, vr 135]) (MS I J cc ss) _
  refine ev_n (fr' := (31, [some (vr 135), some (vi u), some (vi t), some (vi x), some (vi y)], [vi 1, vr 135])) (S' := MS I J cc ss) 3 rfl ?_
  refine ev_n (fr' := (34, [some (vr 135), some (vi u), some (vi t), some (vi x), some (vi y)], [])) (S' := MS (up2 I 135 4 1) J cc ss) 1 rfl ?_
  refine ev_n (fr' := (42, [some (vr 135), some (vi u), some (vi t), some (vi x), some (vi y)], [vi 0])) (S' := MS (up2 I 135 4 1) J cc ss) 4 rfl ?_
  refine ev_r rfl rfl rfl ?_
  exact ⟨rfl, rfl⟩
theorem rb_moveShape_y (X : AX) (I J : Nat → Nat → Int) (cc ss : Nat) {g : F1} (p : Nat) (t x y : Int) (hg : J 136 = g) (hws : WS g) (hwp : WP g) (hwi : WI g) (hp : (p : Int) < g 11) (h : ¬ (0 ≤ t ∧ t < g (37 * p + 12))) : Ev X k_X9_moveShape (0, [some (vr 135), some (vi (p : Int)), some (vi t), some (vi x), some (vi y)], []) (MS I J cc ss) (fun o T => o = .inl (some (vi 0)) ∧ T = MS (up2 I 135 4 1) J cc ss) := by
  have q0 := hws.1
  have q1 := hws.2.1
  have q2 := hwp.1
  have q3 := hwp.2.1
  have q4 := hwi.1
  have q5 := hwi.2.1
  refine ev_n (fr' := (4, [some (vr 135), some (vi (p : Int)), some (vi t), some (vi x), some (vi y)], [vi t, vi (p : Int), vr 135, vr 135])) (S' := MS I J cc ss) 4 rfl ?_
  refine ev_cv rfl rfl rfl ⟨Nat.le_of_ble_eq_true rfl, Nat.le_of_ble_eq_true rfl⟩ (sp_isShape_n X _ _ _ _ p t hg hws hwp hwi (by omega)) ?_
  show Ev X k_X9_moveShape (7, [some (vr 135), some (vi (p : Int)), some (vi t), some (vi x), some (vi y)], [vi (if 0 ≤ t ∧ t < g (37 * p + 12) then 1 else 0), vr 135]) (MS I J cc ss) _
  refine ev_bne _ rfl (by decide) (fun (g1 : 0 ≤ t ∧ t < g (37 * p + 12)) => False.elim ((h) g1)) (fun (g1 : ¬ (0 ≤ t ∧ t < g (37 * p + 12))) => ?_)
  show Ev X k_X9_moveShape (10, [some (vr 135), some (vi (p : Int)), some (vi t), some (vi x), some (vi y)], [vr 135]) (MS I J cc ss) _
  refine ev_n (fr' := (31, [some (vr 135), some (vi (p : Int)), some (vi t), some (vi x), some (vi y)], [vi 1, vr 135])) (S' := MS I J cc ss) 2 rfl ?_
  refine ev_n (fr' := (34, [some (vr 135), some (vi (p : Int)), some (vi t), some (vi x), some (vi y)], [])) (S' := MS (up2 I 135 4 1) J cc ss) 1 rfl ?_
  refine ev_n (fr' := (42, [some (vr 135), some (vi (p : Int)), some (vi t), some (vi x), some (vi y)], [vi 0])) (S' := MS (up2 I 135 4 1) J cc ss) 4 rfl ?_
  refine ev_r rfl rfl rfl ?_
  exact ⟨rfl, rfl⟩
theorem rb_moveShape_z (X : AX) (I J : Nat → Nat → Int) (cc ss : Nat) {g : F1} (p s : Nat) (x y : Int) (hg : J 136 = g) (hws : WS g) (hwp : WP g) (hwi : WI g) (hp : (p : Int) < g 11) (hs2 : (s : Int) < g (37 * p + 12)) (h : ¬ ((-48 ≤ x ∧ x ≤ 48) ∧ (-48 ≤ y ∧ y ≤ 48) ∧ canP g p s x y)) : Ev X k_X9_moveShape (0, [some (vr 135), some (vi (p : Int)), some (vi (s : Int)), some (vi x), some (vi y)], []) (MS I J cc ss) (fun o T => o = .inl (some (vi 0)) ∧ T = MS (up2 I 135 4 2) J cc ss) := by
  have q0 := hws.1
  have q1 := hws.2.1
  have q2 := hwp.1
  have q3 := hwp.2.1
  have q4 := hwi.1
  have q5 := hwi.2.1
  have hr := (hwp.2.2 p hp).2.1
  have hr1 := (hwp.2.2 p hp).1
  refine ev_n (fr' := (4, [some (vr 135), some (vi (p : Int)), some (vi (s : Int)), some (vi x), some (vi y)], [vi (s : Int), vi (p : Int), vr 135, vr 135])) (S' := MS I J cc ss) 4 rfl ?_
  refine ev_cv rfl rfl rfl ⟨Nat.le_of_ble_eq_true rfl, Nat.le_of_ble_eq_true rfl⟩ (sp_isShape_n X _ _ _ _ p (s : Int) hg hws hwp hwi (by omega)) ?_
  show Ev X k_X9_moveShape (7, [some (vr 135), some (vi (p : Int)), some (vi (s : Int)), some (vi x), some (vi y)], [vi (if 0 ≤ (s : Int) ∧ (s : Int) < g (37 * p + 12) then 1 else 0), vr 135]) (MS I J cc ss) _
  refine ev_bne _ rfl (by decide) (fun (g1 : 0 ≤ (s : Int) ∧ (s : Int) < g (37 * p + 12)) => ?_) (fun (g1 : ¬ (0 ≤ (s : Int) ∧ (s : Int) < g (37 * p + 12))) => False.elim (g1 (by omega)))
  show Ev X k_X9_moveShape (14, [some (vr 135), some (vi (p : Int)), some (vi (s : Int)), some (vi x), some (vi y)], [vr 135]) (MS I J cc ss) _
  refine ev_n (fr' := (20, [some (vr 135), some (vi (p : Int)), some (vi (s : Int)), some (vi x), some (vi y)], [vi y, vi x, vi (s : Int), vi (p : Int), vr 135, vr 135])) (S' := MS I J cc ss) 5 rfl ?_
  refine ev_cv rfl rfl rfl ⟨Nat.le_of_ble_eq_true rfl, Nat.le_of_ble_eq_true rfl⟩ (sp_canMove X _ _ _ _ p s x y hg hwp (by omega) (by omega)) ?_
  show Ev X k_X9_moveShape (23, [some (vr 135), some (vi (p : Int)), some (vi (s : Int)), some (vi x), some (vi y)], [vi (if (-48 ≤ x ∧ x ≤ 48) ∧ (-48 ≤ y ∧ y ≤ 48) ∧ canP g p s x y then 1 else 0), vr 135]) (MS I J cc ss) _
  refine ev_beq _ rfl (by decide) (fun (g2 : ¬ ((-48 ≤ x ∧ x ≤ 48) ∧ (-48 ≤ y ∧ y ≤ 48) ∧ canP g p s x y)) => ?_) (fun (g2 : (-48 ≤ x ∧ x ≤ 48) ∧ (-48 ≤ y ∧ y ≤ 48) ∧ canP g p s x y) => False.elim ((h) g2))
  show Ev X k_X9_moveShape (30, [some (vr 135), some (vi (p : Int)), some (vi (s : Int)), some (vi x), some (vi y)], [vr 135]) (MS I J cc ss) _
  refine ev_n (fr' := (31, [some (vr 135), some (vi (p : Int)), some (vi (s : Int)), some (vi x), some (vi y)], [vi 2, vr 135])) (S' := MS I J cc ss) 1 rfl ?_
  refine ev_n (fr' := (34, [some (vr 135), some (vi (p : Int)), some (vi (s : Int)), some (vi x), some (vi y)], [])) (S' := MS (up2 I 135 4 2) J cc ss) 1 rfl ?_
  refine ev_n (fr' := (42, [some (vr 135), some (vi (p : Int)), some (vi (s : Int)), some (vi x), some (vi y)], [vi 0])) (S' := MS (up2 I 135 4 2) J cc ss) 4 rfl ?_
  refine ev_r rfl rfl rfl ?_
  exact ⟨rfl, rfl⟩
theorem rb_copyShape_x (X : AX) (I J : Nat → Nat → Int) (cc ss : Nat) {g : F1} (u t x y : Int) (hg : J 136 = g) (hws : WS g) (hwp : WP g) (hwi : WI g) (h : ¬ (0 ≤ u ∧ u < g 11)) : Ev X k_X9_copyShape (0, [some (vr 135), some (vi u), some (vi t), some (vi x), some (vi y), none, none], []) (MS I J cc ss) (fun o T => o = .inl (some (vi 0)) ∧ T = MS (up2 I 135 4 1) J cc ss) := by
  have q0 := hws.1
  have q1 := hws.2.1
  have q2 := hwp.1
  have q3 := hwp.2.1
  have q4 := hwi.1
  have q5 := hwi.2.1
  refine ev_n (fr' := (4, [some (vr 135), some (vi u), some (vi t), some (vi x), some (vi y), none, none], [vi t, vi u, vr 135, vr 135])) (S' := MS I J cc ss) 4 rfl ?_
  refine ev_cv rfl rfl rfl ⟨Nat.le_of_ble_eq_true rfl, Nat.le_of_ble_eq_true rfl⟩ (sp_isShape_0 X _ _ _ _ u t hg hws hwp hwi h) ?_
  show Ev X k_X9_copyShape (7, [some (vr 135), some (vi u), some (vi t), some (vi x), some (vi y), none, none], [vi 0, vr 135]) (MS I J cc ss) _
  refine ev_n (fr' := (45, [some (vr 135), some (vi u), some (vi t), some (vi x), some (vi y), none, none], [vi 1, vr 135])) (S' := MS I J cc ss) 3 rfl ?_
  refine ev_n (fr' := (48, [some (vr 135), some (vi u), some (vi t), some (vi x), some (vi y), none, none], [])) (S' := MS (up2 I 135 4 1) J cc ss) 1 rfl ?_
  refine ev_n (fr' := (56, [some (vr 135), some (vi u), some (vi t), some (vi x), some (vi y), none, none], [vi 0])) (S' := MS (up2 I 135 4 1) J cc ss) 4 rfl ?_
  refine ev_r rfl rfl rfl ?_
  exact ⟨rfl, rfl⟩
theorem rb_copyShape_y (X : AX) (I J : Nat → Nat → Int) (cc ss : Nat) {g : F1} (p : Nat) (t x y : Int) (hg : J 136 = g) (hws : WS g) (hwp : WP g) (hwi : WI g) (hp : (p : Int) < g 11) (h : ¬ (0 ≤ t ∧ t < g (37 * p + 12))) : Ev X k_X9_copyShape (0, [some (vr 135), some (vi (p : Int)), some (vi t), some (vi x), some (vi y), none, none], []) (MS I J cc ss) (fun o T => o = .inl (some (vi 0)) ∧ T = MS (up2 I 135 4 1) J cc ss) := by
  have q0 := hws.1
  have q1 := hws.2.1
  have q2 := hwp.1
  have q3 := hwp.2.1
  have q4 := hwi.1
  have q5 := hwi.2.1
  refine ev_n (fr' := (4, [some (vr 135), some (vi (p : Int)), some (vi t), some (vi x), some (vi y), none, none], [vi t, vi (p : Int), vr 135, vr 135])) (S' := MS I J cc ss) 4 rfl ?_
  refine ev_cv rfl rfl rfl ⟨Nat.le_of_ble_eq_true rfl, Nat.le_of_ble_eq_true rfl⟩ (sp_isShape_n X _ _ _ _ p t hg hws hwp hwi (by omega)) ?_
  show Ev X k_X9_copyShape (7, [some (vr 135), some (vi (p : Int)), some (vi t), some (vi x), some (vi y), none, none], [vi (if 0 ≤ t ∧ t < g (37 * p + 12) then 1 else 0), vr 135]) (MS I J cc ss) _
  refine ev_bne _ rfl (by decide) (fun (g1 : 0 ≤ t ∧ t < g (37 * p + 12)) => False.elim ((h) g1)) (fun (g1 : ¬ (0 ≤ t ∧ t < g (37 * p + 12))) => ?_)
  show Ev X k_X9_copyShape (10, [some (vr 135), some (vi (p : Int)), some (vi t), some (vi x), some (vi y), none, none], [vr 135]) (MS I J cc ss) _
  refine ev_n (fr' := (45, [some (vr 135), some (vi (p : Int)), some (vi t), some (vi x), some (vi y), none, none], [vi 1, vr 135])) (S' := MS I J cc ss) 2 rfl ?_
  refine ev_n (fr' := (48, [some (vr 135), some (vi (p : Int)), some (vi t), some (vi x), some (vi y), none, none], [])) (S' := MS (up2 I 135 4 1) J cc ss) 1 rfl ?_
  refine ev_n (fr' := (56, [some (vr 135), some (vi (p : Int)), some (vi t), some (vi x), some (vi y), none, none], [vi 0])) (S' := MS (up2 I 135 4 1) J cc ss) 4 rfl ?_
  refine ev_r rfl rfl rfl ?_
  exact ⟨rfl, rfl⟩
theorem rb_copyShape_z (X : AX) (I J : Nat → Nat → Int) (cc ss : Nat) {g : F1} (p s : Nat) (x y : Int) (hg : J 136 = g) (hws : WS g) (hwp : WP g) (hwi : WI g) (hp : (p : Int) < g 11) (hs2 : (s : Int) < g (37 * p + 12)) (h : ¬ ((-48 ≤ x ∧ x ≤ 48) ∧ (-48 ≤ y ∧ y ≤ 48) ∧ canP g p s x y)) : Ev X k_X9_copyShape (0, [some (vr 135), some (vi (p : Int)), some (vi (s : Int)), some (vi x), some (vi y), none, none], []) (MS I J cc ss) (fun o T => o = .inl (some (vi 0)) ∧ T = MS (up2 I 135 4 2) J cc ss) := by
  have q0 := hws.1
  have q1 := hws.2.1
  have q2 := hwp.1
  have q3 := hwp.2.1
  have q4 := hwi.1
  have q5 := hwi.2.1
  have hr := (hwp.2.2 p hp).2.1
  have hr1 := (hwp.2.2 p hp).1
  refine ev_n (fr' := (4, [some (vr 135), some (vi (p : Int)), some (vi (s : Int)), some (vi x), some (vi y), none, none], [vi (s : Int), vi (p : Int), vr 135, vr 135])) (S' := MS I J cc ss) 4 rfl ?_
  refine ev_cv rfl rfl rfl ⟨Nat.le_of_ble_eq_true rfl, Nat.le_of_ble_eq_true rfl⟩ (sp_isShape_n X _ _ _ _ p (s : Int) hg hws hwp hwi (by omega)) ?_
  show Ev X k_X9_copyShape (7, [some (vr 135), some (vi (p : Int)), some (vi (s : Int)), some (vi x), some (vi y), none, none], [vi (if 0 ≤ (s : Int) ∧ (s : Int) < g (37 * p + 12) then 1 else 0), vr 135]) (MS I J cc ss) _
  refine ev_bne _ rfl (by decide) (fun (g1 : 0 ≤ (s : Int) ∧ (s : Int) < g (37 * p + 12)) => ?_) (fun (g1 : ¬ (0 ≤ (s : Int) ∧ (s : Int) < g (37 * p + 12))) => False.elim (g1 (by omega)))
  show Ev X k_X9_copyShape (14, [some (vr 135), some (vi (p : Int)), some (vi (s : Int)), some (vi x), some (vi y), none, none], [vr 135]) (MS I J cc ss) _
  refine ev_n (fr' := (20, [some (vr 135), some (vi (p : Int)), some (vi (s : Int)), some (vi x), some (vi y), none, none], [vi y, vi x, vi (s : Int), vi (p : Int), vr 135, vr 135])) (S' := MS I J cc ss) 5 rfl ?_
  refine ev_cv rfl rfl rfl ⟨Nat.le_of_ble_eq_true rfl, Nat.le_of_ble_eq_true rfl⟩ (sp_canMove X _ _ _ _ p s x y hg hwp (by omega) (by omega)) ?_
  show Ev X k_X9_copyShape (23, [some (vr 135), some (vi (p : Int)), some (vi (s : Int)), some (vi x), some (vi y), none, none], [vi (if (-48 ≤ x ∧ x ≤ 48) ∧ (-48 ≤ y ∧ y ≤ 48) ∧ canP g p s x y then 1 else 0), vr 135]) (MS I J cc ss) _
  refine ev_bne _ rfl (by decide) (fun (g2 : (-48 ≤ x ∧ x ≤ 48) ∧ (-48 ≤ y ∧ y ≤ 48) ∧ canP g p s x y) => False.elim ((h) g2)) (fun (g2 : ¬ ((-48 ≤ x ∧ x ≤ 48) ∧ (-48 ≤ y ∧ y ≤ 48) ∧ canP g p s x y)) => ?_)
  show Ev X k_X9_copyShape (26, [some (vr 135), some (vi (p : Int)), some (vi (s : Int)), some (vi x), some (vi y), none, none], [vr 135]) (MS I J cc ss) _
  refine ev_n (fr' := (45, [some (vr 135), some (vi (p : Int)), some (vi (s : Int)), some (vi x), some (vi y), none, none], [vi 2, vr 135])) (S' := MS I J cc ss) 2 rfl ?_
  refine ev_n (fr' := (48, [some (vr 135), some (vi (p : Int)), some (vi (s : Int)), some (vi x), some (vi y), none, none], [])) (S' := MS (up2 I 135 4 2) J cc ss) 1 rfl ?_
  refine ev_n (fr' := (56, [some (vr 135), some (vi (p : Int)), some (vi (s : Int)), some (vi x), some (vi y), none, none], [vi 0])) (S' := MS (up2 I 135 4 2) J cc ss) 4 rfl ?_
  refine ev_r rfl rfl rfl ?_
  exact ⟨rfl, rfl⟩
theorem rb_copyShape_w (X : AX) (I J : Nat → Nat → Int) (cc ss : Nat) {g : F1} (p s : Nat) (x y : Int) (hg : J 136 = g) (hws : WS g) (hwp : WP g) (hwi : WI g) (hp : (p : Int) < g 11) (hs2 : (s : Int) < g (37 * p + 12)) (h : (-48 ≤ x ∧ x ≤ 48) ∧ (-48 ≤ y ∧ y ≤ 48) ∧ canP g p s x y) (h6 : g (37 * p + 12) = 6) : Ev X k_X9_copyShape (0, [some (vr 135), some (vi (p : Int)), some (vi (s : Int)), some (vi x), some (vi y), none, none], []) (MS I J cc ss) (fun o T => o = .inl (some (vi 0)) ∧ T = MS (up2 I 135 4 3) J cc ss) := by
  have q0 := hws.1
  have q1 := hws.2.1
  have q2 := hwp.1
  have q3 := hwp.2.1
  have q4 := hwi.1
  have q5 := hwi.2.1
  have hr := (hwp.2.2 p hp).2.1
  have hr1 := (hwp.2.2 p hp).1
  refine ev_n (fr' := (4, [some (vr 135), some (vi (p : Int)), some (vi (s : Int)), some (vi x), some (vi y), none, none], [vi (s : Int), vi (p : Int), vr 135, vr 135])) (S' := MS I J cc ss) 4 rfl ?_
  refine ev_cv rfl rfl rfl ⟨Nat.le_of_ble_eq_true rfl, Nat.le_of_ble_eq_true rfl⟩ (sp_isShape_n X _ _ _ _ p (s : Int) hg hws hwp hwi (by omega)) ?_
  show Ev X k_X9_copyShape (7, [some (vr 135), some (vi (p : Int)), some (vi (s : Int)), some (vi x), some (vi y), none, none], [vi (if 0 ≤ (s : Int) ∧ (s : Int) < g (37 * p + 12) then 1 else 0), vr 135]) (MS I J cc ss) _
  refine ev_bne _ rfl (by decide) (fun (g1 : 0 ≤ (s : Int) ∧ (s : Int) < g (37 * p + 12)) => ?_) (fun (g1 : ¬ (0 ≤ (s : Int) ∧ (s : Int) < g (37 * p + 12))) => False.elim (g1 (by omega)))
  show Ev X k_X9_copyShape (14, [some (vr 135), some (vi (p : Int)), some (vi (s : Int)), some (vi x), some (vi y), none, none], [vr 135]) (MS I J cc ss) _
  refine ev_n (fr' := (20, [some (vr 135), some (vi (p : Int)), some (vi (s : Int)), some (vi x), some (vi y), none, none], [vi y, vi x, vi (s : Int), vi (p : Int), vr 135, vr 135])) (S' := MS I J cc ss) 5 rfl ?_
  refine ev_cv rfl rfl rfl ⟨Nat.le_of_ble_eq_true rfl, Nat.le_of_ble_eq_true rfl⟩ (sp_canMove X _ _ _ _ p s x y hg hwp (by omega) (by omega)) ?_
  show Ev X k_X9_copyShape (23, [some (vr 135), some (vi (p : Int)), some (vi (s : Int)), some (vi x), some (vi y), none, none], [vi (if (-48 ≤ x ∧ x ≤ 48) ∧ (-48 ≤ y ∧ y ≤ 48) ∧ canP g p s x y then 1 else 0), vr 135]) (MS I J cc ss) _
  refine ev_bne _ rfl (by decide) (fun (g2 : (-48 ≤ x ∧ x ≤ 48) ∧ (-48 ≤ y ∧ y ≤ 48) ∧ canP g p s x y) => ?_) (fun (g2 : ¬ ((-48 ≤ x ∧ x ≤ 48) ∧ (-48 ≤ y ∧ y ≤ 48) ∧ canP g p s x y)) => False.elim (g2 (h)))
  show Ev X k_X9_copyShape (30, [some (vr 135), some (vi (p : Int)), some (vi (s : Int)), some (vi x), some (vi y), none, none], [vr 135]) (MS I J cc ss) _
  refine ev_n (fr' := (32, [some (vr 135), some (vi (p : Int)), some (vi (s : Int)), some (vi x), some (vi y), none, none], [vi (p : Int), vr 135, vr 135])) (S' := MS I J cc ss) 2 rfl ?_
  refine ev_cv rfl rfl rfl ⟨Nat.le_of_ble_eq_true rfl, Nat.le_of_ble_eq_true rfl⟩ (sp_shapesOf_r X _ _ _ _ p hg hwp (by omega)) ?_
  show Ev X k_X9_copyShape (35, [some (vr 135), some (vi (p : Int)), some (vi (s : Int)), some (vi x), some (vi y), none, none], [vi (g (37 * p + 12)), vr 135]) (MS I J cc ss) _
  refine ev_n (fr' := (37, [some (vr 135), some (vi (p : Int)), some (vi (s : Int)), some (vi x), some (vi y), none, none], [vi 6, vi (g (37 * p + 12)), vr 135])) (S' := MS I J cc ss) 1 rfl ?_
  refine ev_ic (c := .ne) (off := 7) rfl (by decide) (fun (g3 : (g (37 * p + 12)) ≠ 6) => False.elim (by omega)) (fun (g3 : ¬ ((g (37 * p + 12)) ≠ 6)) => ?_)
  show Ev X k_X9_copyShape (40, [some (vr 135), some (vi (p : Int)), some (vi (s : Int)), some (vi x), some (vi y), none, none], [vr 135]) (MS I J cc ss) _
  refine ev_n (fr' := (45, [some (vr 135), some (vi (p : Int)), some (vi (s : Int)), some (vi x), some (vi y), none, none], [vi 3, vr 135])) (S' := MS I J cc ss) 2 rfl ?_
  refine ev_n (fr' := (48, [some (vr 135), some (vi (p : Int)), some (vi (s : Int)), some (vi x), some (vi y), none, none], [])) (S' := MS (up2 I 135 4 3) J cc ss) 1 rfl ?_
  refine ev_n (fr' := (56, [some (vr 135), some (vi (p : Int)), some (vi (s : Int)), some (vi x), some (vi y), none, none], [vi 0])) (S' := MS (up2 I 135 4 3) J cc ss) 4 rfl ?_
  refine ev_r rfl rfl rfl ?_
  exact ⟨rfl, rfl⟩
theorem rb_moveShape (X : AX) (I J : Nat → Nat → Int) (cc ss : Nat) (p s : Nat) (x y : Int) {g : F1} (hg : J 136 = g) (hws : WS g) (hwp : WP g) (hwi : WI g) {hs : Nat → F1} {m : Nat} (hm : I 135 3 = (m : Int)) (hm8 : m ≤ 8) (hH : MH J hs m) (hp : (p : Int) < g 11) (hs2 : (s : Int) < g (37 * p + 12)) (h1 : (-48 ≤ x ∧ x ≤ 48) ∧ (-48 ≤ y ∧ y ≤ 48)) (hc : canP g p s x y) : Ev X k_X9_moveShape (0, [some (vr 135), some (vi (p : Int)), some (vi (s : Int)), some (vi x), some (vi y)], []) (MS I J cc ss) (PV cc ss (some (vi (popF (mkF g (p : Int) (g 308).toNat)))) (fun I' J' => NewR I I' J J' hs m g (wrS g (37 * p + 6 * s + 13) 6 (fun j => g (37 * p + 6 * s + j + 13) + goF (g (37 * p + 6 * s + 13)) (j : Int) x y)))) := by
  have q0 := hws.1
  have q1 := hws.2.1
  have q2 := hwp.1
  have q3 := hwp.2.1
  have q4 := hwi.1
  have q5 := hwi.2.1
  have hr := (hwp.2.2 p hp).2.1
  have hr1 := (hwp.2.2 p hp).1
  have hw9 := WF.mv (t := s) ⟨hws, hwp, hwi⟩ hp hs2 hs2 hc
  refine ev_n (fr' := (4, [some (vr 135), some (vi (p : Int)), some (vi (s : Int)), some (vi x), some (vi y)], [vi (s : Int), vi (p : Int), vr 135, vr 135])) (S' := MS I J cc ss) 4 rfl ?_
  refine ev_cv rfl rfl rfl ⟨Nat.le_of_ble_eq_true rfl, Nat.le_of_ble_eq_true rfl⟩ (sp_isShape_n X _ _ _ _ p (s : Int) hg hws hwp hwi (by omega)) ?_
  show Ev X k_X9_moveShape (7, [some (vr 135), some (vi (p : Int)), some (vi (s : Int)), some (vi x), some (vi y)], [vi (if 0 ≤ (s : Int) ∧ (s : Int) < g (37 * p + 12) then 1 else 0), vr 135]) (MS I J cc ss) _
  refine ev_bne _ rfl (by decide) (fun (g1 : 0 ≤ (s : Int) ∧ (s : Int) < g (37 * p + 12)) => ?_) (fun (g1 : ¬ (0 ≤ (s : Int) ∧ (s : Int) < g (37 * p + 12))) => False.elim (g1 (by omega)))
  show Ev X k_X9_moveShape (14, [some (vr 135), some (vi (p : Int)), some (vi (s : Int)), some (vi x), some (vi y)], [vr 135]) (MS I J cc ss) _
  refine ev_n (fr' := (20, [some (vr 135), some (vi (p : Int)), some (vi (s : Int)), some (vi x), some (vi y)], [vi y, vi x, vi (s : Int), vi (p : Int), vr 135, vr 135])) (S' := MS I J cc ss) 5 rfl ?_
  refine ev_cv rfl rfl rfl ⟨Nat.le_of_ble_eq_true rfl, Nat.le_of_ble_eq_true rfl⟩ (sp_canMove X _ _ _ _ p s x y hg hwp (by omega) (by omega)) ?_
  show Ev X k_X9_moveShape (23, [some (vr 135), some (vi (p : Int)), some (vi (s : Int)), some (vi x), some (vi y)], [vi (if (-48 ≤ x ∧ x ≤ 48) ∧ (-48 ≤ y ∧ y ≤ 48) ∧ canP g p s x y then 1 else 0), vr 135]) (MS I J cc ss) _
  refine ev_beq _ rfl (by decide) (fun (g2 : ¬ ((-48 ≤ x ∧ x ≤ 48) ∧ (-48 ≤ y ∧ y ≤ 48) ∧ canP g p s x y)) => False.elim (g2 (⟨h1.1, h1.2, hc⟩))) (fun (g2 : (-48 ≤ x ∧ x ≤ 48) ∧ (-48 ≤ y ∧ y ≤ 48) ∧ canP g p s x y) => ?_)
  show Ev X k_X9_moveShape (26, [some (vr 135), some (vi (p : Int)), some (vi (s : Int)), some (vi x), some (vi y)], [vr 135]) (MS I J cc ss) _
  refine ev_n (fr' := (31, [some (vr 135), some (vi (p : Int)), some (vi (s : Int)), some (vi x), some (vi y)], [vi 0, vr 135])) (S' := MS I J cc ss) 2 rfl ?_
  refine ev_n (fr' := (34, [some (vr 135), some (vi (p : Int)), some (vi (s : Int)), some (vi x), some (vi y)], [])) (S' := MS (up2 I 135 4 0) J cc ss) 1 rfl ?_
  refine ev_n (fr' := (44, [some (vr 135), some (vi (p : Int)), some (vi (s : Int)), some (vi x), some (vi y)], [vr 135])) (S' := MS (up2 I 135 4 0) J cc ss) 4 rfl ?_
  refine ev_cp rfl rfl rfl ⟨Nat.le_of_ble_eq_true rfl, Nat.le_of_ble_eq_true rfl⟩ (sp_keeps X _ _ _ _ hg (m := m) ((up2_ne2 _ _ _ _ (by decide)).trans hm) hm8 hH) (fun I1 J2 q3 => ?_)
  obtain ⟨rK, hm9, hH9⟩ := q3
  show Ev X k_X9_moveShape (47, [some (vr 135), some (vi (p : Int)), some (vi (s : Int)), some (vi x), some (vi y)], []) (MS I1 J2 cc ss) _
  have hg := (rK.2.2 136 (by decide)).trans hg
  refine ev_n (fr' := (53, [some (vr 135), some (vi (p : Int)), some (vi (s : Int)), some (vi x), some (vi y)], [vi y, vi x, vi (s : Int), vi (p : Int), vr 135])) (S' := MS I1 J2 cc ss) 5 rfl ?_
  refine ev_cp rfl rfl rfl ⟨Nat.le_of_ble_eq_true rfl, Nat.le_of_ble_eq_true rfl⟩ (sp_moves X _ _ _ _ p s x y hg hwp hp hs2 h1.1 h1.2) (fun I1 J4 q5 => ?_)
  obtain ⟨rfl, r136, hg9⟩ := q5
  show Ev X k_X9_moveShape (56, [some (vr 135), some (vi (p : Int)), some (vi (s : Int)), some (vi x), some (vi y)], []) (MS I1 J4 cc ss) _
  refine ev_n (fr' := (58, [some (vr 135), some (vi (p : Int)), some (vi (s : Int)), some (vi x), some (vi y)], [vi (p : Int), vr 135])) (S' := MS I1 J4 cc ss) 2 rfl ?_
  refine ev_cv rfl rfl rfl ⟨Nat.le_of_ble_eq_true rfl, Nat.le_of_ble_eq_true rfl⟩ ((mkF_congr (g := g) (g' := wrS g (37 * p + 6 * s + 13) 6 (fun j => g (37 * p + 6 * s + j + 13) + goF (g (37 * p + 6 * s + 13)) (j : Int) x y)) (x := (p : Int)) hwi (fun k h1 h2 => wrS_out (by omega))) ▸ sp_usedBy X _ _ _ _ (p : Int) hg9 hw9.2.1 hw9.2.2) ?_
  show Ev X k_X9_moveShape (61, [some (vr 135), some (vi (p : Int)), some (vi (s : Int)), some (vi x), some (vi y)], [vi (mkF g (p : Int) (g 308).toNat)]) (MS I1 J4 cc ss) _
  refine ev_cv rfl rfl rfl ⟨Nat.le_of_ble_eq_true rfl, Nat.le_of_ble_eq_true rfl⟩ (sp_bitCount X _ (mkF g (p : Int) (g 308).toNat) ) ?_
  show Ev X k_X9_moveShape (64, [some (vr 135), some (vi (p : Int)), some (vi (s : Int)), some (vi x), some (vi y)], [vi (popF (mkF g (p : Int) (g 308).toNat))]) (MS I1 J4 cc ss) _
  refine ev_r rfl rfl rfl ?_
  exact ⟨_, _, rfl, rfl, nEnd rK hm9 hH9 r136 hg9⟩
theorem lp_rcp (X : AX) (I J : Nat → Nat → Int) (cc ss : Nat) (J0 : F2) {g : F1} (p s n : Nat) (x y : Int) (hwp : WP g) (hp : (p : Int) < g 11) (hn : g (37 * p + 12) = (n : Int)) (hsn : s < n) (hn6 : n < 6) (h1 : (-48 ≤ x ∧ x ≤ 48) ∧ (-48 ≤ y ∧ y ≤ 48)) (k : Nat) (hk : k ≤ 6) (hJ : ∀ a, a ≠ 136 → J a = J0 a) (hg : J 136 = wrS g (37 * p + 6 * n + 13) k (fun j => g (37 * p + 6 * s + j + 13))) : Ev X k_X9_copyShape (71, [some (vr 135), some (vi (p : Int)), some (vi (s : Int)), some (vi x), some (vi y), some (vi (n : Int)), some (vi (k : Int))], []) (MS I J cc ss) (PV cc ss (some (vi (n : Int))) (fun I' J' => I' = I ∧ (∀ a, a ≠ 136 → J' a = J0 a) ∧ J' 136 = wrS (cpF1 g p s n) (37 * p + 6 * n + 13) 6 (fun j => cpF1 g p s n (37 * p + 6 * n + j + 13) + goF (cpF1 g p s n (37 * p + 6 * n + 13)) (j : Int) x y))) := by
  have hw8 := hwp.2.1
  refine ev_n (fr' := (75, [some (vr 135), some (vi (p : Int)), some (vi (s : Int)), some (vi x), some (vi y), some (vi (n : Int)), some (vi (k : Int))], [vi 6, vi (k : Int)])) (S' := MS I J cc ss) 2 rfl ?_
  refine ev_ic (c := .ge) (off := 36) rfl (by decide) (fun (g1 : 6 ≤ (k : Int)) => ?_) (fun (g1 : ¬ (6 ≤ (k : Int))) => ?_)
  · show Ev X k_X9_copyShape (111, [some (vr 135), some (vi (p : Int)), some (vi (s : Int)), some (vi x), some (vi y), some (vi (n : Int)), some (vi (k : Int))], []) (MS I J cc ss) _
    refine ev_n (fr' := (120, [some (vr 135), some (vi (p : Int)), some (vi (s : Int)), some (vi x), some (vi y), some (vi (n : Int)), some (vi (k : Int))], [vi (p : Int), vi 37, vi 12, vr 136])) (S' := MS I J cc ss) 5 rfl ?_
    refine ev_mul (z := 37 * (p : Int)) rfl (by omega) (by omega) (by omega) ?_
    show Ev X k_X9_copyShape (121, [some (vr 135), some (vi (p : Int)), some (vi (s : Int)), some (vi x), some (vi y), some (vi (n : Int)), some (vi (k : Int))], [vi (37 * (p : Int)), vi 12, vr 136]) (MS I J cc ss) _
    refine ev_add (z := 37 * (p : Int) + 12) rfl (by omega) (by omega) (by omega) ?_
    show Ev X k_X9_copyShape (122, [some (vr 135), some (vi (p : Int)), some (vi (s : Int)), some (vi x), some (vi y), some (vi (n : Int)), some (vi (k : Int))], [vi (37 * (p : Int) + 12), vr 136]) (MS I J cc ss) _
    refine ev_n (fr' := (123, [some (vr 135), some (vi (p : Int)), some (vi (s : Int)), some (vi x), some (vi y), some (vi (n : Int)), some (vi (k : Int))], [vi (37 * (p : Int) + 12), vr 136, vi (37 * (p : Int) + 12), vr 136])) (S' := MS I J cc ss) 1 rfl ?_
    refine ev_laN (j := 37 * p + 12) (z := (n : Int)) rfl rfl (by omega) (by omega) ((congrFun hg _).trans ((wrS_out (by omega)).trans hn)) ?_
    show Ev X k_X9_copyShape (124, [some (vr 135), some (vi (p : Int)), some (vi (s : Int)), some (vi x), some (vi y), some (vi (n : Int)), some (vi (k : Int))], [vl (n : Int), vi (37 * (p : Int) + 12), vr 136]) (MS I J cc ss) _
    refine ev_n (fr' := (125, [some (vr 135), some (vi (p : Int)), some (vi (s : Int)), some (vi x), some (vi y), some (vi (n : Int)), some (vi (k : Int))], [vl 1, vl (n : Int), vi (37 * (p : Int) + 12), vr 136])) (S' := MS I J cc ss) 1 rfl ?_
    refine ev_ladd (z := (n : Int) + 1) rfl (by omega) (by omega) (by omega) ?_
    show Ev X k_X9_copyShape (126, [some (vr 135), some (vi (p : Int)), some (vi (s : Int)), some (vi x), some (vi y), some (vi (n : Int)), some (vi (k : Int))], [vl ((n : Int) + 1), vi (37 * (p : Int) + 12), vr 136]) (MS I J cc ss) _
    refine ev_lasN (j := 37 * p + 12) rfl rfl (by omega) (by omega) ?_
    show Ev X k_X9_copyShape (127, [some (vr 135), some (vi (p : Int)), some (vi (s : Int)), some (vi x), some (vi y), some (vi (n : Int)), some (vi (k : Int))], []) (MS I (up2 J 136 (37 * p + 12) ((n : Int) + 1)) cc ss) _
    refine ev_n (fr' := (134, [some (vr 135), some (vi (p : Int)), some (vi (s : Int)), some (vi x), some (vi y), some (vi (n : Int)), some (vi (k : Int))], [vi y, vi x, vi (n : Int), vi (p : Int), vr 135])) (S' := MS I (up2 J 136 (37 * p + 12) ((n : Int) + 1)) cc ss) 5 rfl ?_
    refine ev_cp rfl rfl rfl ⟨Nat.le_of_ble_eq_true rfl, Nat.le_of_ble_eq_true rfl⟩ (sp_moves X _ _ _ _ p n x y ((up2_u1 hg).trans (by rw [show k = 6 by omega]; rfl)) (WP.cp hwp hp hn hsn hn6) (by rw [cpF1_out (by omega) (by omega)]; exact hp) (by rw [cpF1_cnt]; omega) h1.1 h1.2) (fun I J1 q2 => ?_)
    obtain ⟨rfl, r136, hg9⟩ := q2
    show Ev X k_X9_copyShape (137, [some (vr 135), some (vi (p : Int)), some (vi (s : Int)), some (vi x), some (vi y), some (vi (n : Int)), some (vi (k : Int))], []) (MS I J1 cc ss) _
    refine ev_n (fr' := (139, [some (vr 135), some (vi (p : Int)), some (vi (s : Int)), some (vi x), some (vi y), some (vi (n : Int)), some (vi (k : Int))], [vi (n : Int)])) (S' := MS I J1 cc ss) 1 rfl ?_
    refine ev_r rfl rfl rfl ?_
    exact ⟨_, _, rfl, rfl, rfl, fun a ha => (r136 a ha).trans ((up2_row _ _ _ _ ha).trans (hJ a ha)), hg9⟩
  · show Ev X k_X9_copyShape (78, [some (vr 135), some (vi (p : Int)), some (vi (s : Int)), some (vi x), some (vi y), some (vi (n : Int)), some (vi (k : Int))], []) (MS I J cc ss) _
    refine ev_n (fr' := (85, [some (vr 135), some (vi (p : Int)), some (vi (s : Int)), some (vi x), some (vi y), some (vi (n : Int)), some (vi (k : Int))], [vi (n : Int), vi (p : Int), vr 136])) (S' := MS I J cc ss) 4 rfl ?_
    refine ev_cv rfl rfl rfl ⟨Nat.le_of_ble_eq_true rfl, Nat.le_of_ble_eq_true rfl⟩ (sp_shapeAt X _ (p : Int) (n : Int) (by omega)) ?_
    show Ev X k_X9_copyShape (88, [some (vr 135), some (vi (p : Int)), some (vi (s : Int)), some (vi x), some (vi y), some (vi (n : Int)), some (vi (k : Int))], [vi (37 * (p : Int) + 6 * (n : Int) + 13), vr 136]) (MS I J cc ss) _
    refine ev_n (fr' := (90, [some (vr 135), some (vi (p : Int)), some (vi (s : Int)), some (vi x), some (vi y), some (vi (n : Int)), some (vi (k : Int))], [vi (k : Int), vi (37 * (p : Int) + 6 * (n : Int) + 13), vr 136])) (S' := MS I J cc ss) 1 rfl ?_
    refine ev_add (z := 37 * (p : Int) + 6 * (n : Int) + (k : Int) + 13) rfl (by omega) (by omega) (by omega) ?_
    show Ev X k_X9_copyShape (91, [some (vr 135), some (vi (p : Int)), some (vi (s : Int)), some (vi x), some (vi y), some (vi (n : Int)), some (vi (k : Int))], [vi (37 * (p : Int) + 6 * (n : Int) + (k : Int) + 13), vr 136]) (MS I J cc ss) _
    refine ev_n (fr' := (97, [some (vr 135), some (vi (p : Int)), some (vi (s : Int)), some (vi x), some (vi y), some (vi (n : Int)), some (vi (k : Int))], [vi (s : Int), vi (p : Int), vr 136, vi (37 * (p : Int) + 6 * (n : Int) + (k : Int) + 13), vr 136])) (S' := MS I J cc ss) 4 rfl ?_
    refine ev_cv rfl rfl rfl ⟨Nat.le_of_ble_eq_true rfl, Nat.le_of_ble_eq_true rfl⟩ (sp_shapeAt X _ (p : Int) (s : Int) (by omega)) ?_
    show Ev X k_X9_copyShape (100, [some (vr 135), some (vi (p : Int)), some (vi (s : Int)), some (vi x), some (vi y), some (vi (n : Int)), some (vi (k : Int))], [vi (37 * (p : Int) + 6 * (s : Int) + 13), vr 136, vi (37 * (p : Int) + 6 * (n : Int) + (k : Int) + 13), vr 136]) (MS I J cc ss) _
    refine ev_n (fr' := (102, [some (vr 135), some (vi (p : Int)), some (vi (s : Int)), some (vi x), some (vi y), some (vi (n : Int)), some (vi (k : Int))], [vi (k : Int), vi (37 * (p : Int) + 6 * (s : Int) + 13), vr 136, vi (37 * (p : Int) + 6 * (n : Int) + (k : Int) + 13), vr 136])) (S' := MS I J cc ss) 1 rfl ?_
    refine ev_add (z := 37 * (p : Int) + 6 * (s : Int) + (k : Int) + 13) rfl (by omega) (by omega) (by omega) ?_
    show Ev X k_X9_copyShape (103, [some (vr 135), some (vi (p : Int)), some (vi (s : Int)), some (vi x), some (vi y), some (vi (n : Int)), some (vi (k : Int))], [vi (37 * (p : Int) + 6 * (s : Int) + (k : Int) + 13), vr 136, vi (37 * (p : Int) + 6 * (n : Int) + (k : Int) + 13), vr 136]) (MS I J cc ss) _
    refine ev_laN (j := 37 * p + 6 * s + k + 13) (z := (g (37 * p + 6 * s + k + 13))) rfl rfl (by omega) (by omega) ((congrFun hg _).trans ((congrArg _ (by omega)).trans (wrS_out (k := 37 * p + 6 * s + k + 13) (by omega)))) ?_
    show Ev X k_X9_copyShape (104, [some (vr 135), some (vi (p : Int)), some (vi (s : Int)), some (vi x), some (vi y), some (vi (n : Int)), some (vi (k : Int))], [vl (g (37 * p + 6 * s + k + 13)), vi (37 * (p : Int) + 6 * (n : Int) + (k : Int) + 13), vr 136]) (MS I J cc ss) _
    refine ev_lasN (j := 37 * p + 6 * n + k + 13) rfl rfl (by omega) (by omega) ?_
    show Ev X k_X9_copyShape (105, [some (vr 135), some (vi (p : Int)), some (vi (s : Int)), some (vi x), some (vi y), some (vi (n : Int)), some (vi (k : Int))], []) (MS I (up2 J 136 (37 * p + 6 * n + k + 13) (g (37 * p + 6 * s + k + 13))) cc ss) _
    refine ev_inc (z := (k : Int) + 1) rfl rfl (by omega) (by omega) (by omega) rfl ?_
    show Ev X k_X9_copyShape (108, [some (vr 135), some (vi (p : Int)), some (vi (s : Int)), some (vi x), some (vi y), some (vi (n : Int)), some (vi ((k : Int) + 1))], []) (MS I (up2 J 136 (37 * p + 6 * n + k + 13) (g (37 * p + 6 * s + k + 13))) cc ss) _
    refine ev_n (fr' := (71, [some (vr 135), some (vi (p : Int)), some (vi (s : Int)), some (vi x), some (vi y), some (vi (n : Int)), some (vi ((k : Int) + 1))], [])) (S' := MS I (up2 J 136 (37 * p + 6 * n + k + 13) (g (37 * p + 6 * s + k + 13))) cc ss) 1 rfl ?_
    exact lp_rcp X I _ cc ss J0 p s n x y hwp hp hn hsn hn6 h1 (k + 1) (by omega) (fun a ha => by rw [up2_row _ _ _ _ ha]; exact hJ a ha) ((up2_u1 hg).trans (by rw [← wrS_next]; exact congrArg (fun q => upd1 _ q _) (by omega)))
termination_by 6 - k
decreasing_by all_goals omega
theorem rb_copyShape (X : AX) (I J : Nat → Nat → Int) (cc ss : Nat) (p s n : Nat) (x y : Int) {g : F1} (hg : J 136 = g) (hws : WS g) (hwp : WP g) (hwi : WI g) {hs : Nat → F1} {m : Nat} (hm : I 135 3 = (m : Int)) (hm8 : m ≤ 8) (hH : MH J hs m) (hp : (p : Int) < g 11) (hn : g (37 * p + 12) = (n : Int)) (hsn : s < n) (hn6 : n < 6) (h1 : (-48 ≤ x ∧ x ≤ 48) ∧ (-48 ≤ y ∧ y ≤ 48)) (hc : canP g p s x y) : Ev X k_X9_copyShape (0, [some (vr 135), some (vi (p : Int)), some (vi (s : Int)), some (vi x), some (vi y), none, none], []) (MS I J cc ss) (PV cc ss (some (vi ((n : Int)))) (fun I' J' => NewR I I' J J' hs m g (wrS (cpF1 g p s n) (37 * p + 6 * n + 13) 6 (fun j => cpF1 g p s n (37 * p + 6 * n + j + 13) + goF (cpF1 g p s n (37 * p + 6 * n + 13)) (j : Int) x y)))) := by
  have q0 := hws.1
  have q1 := hws.2.1
  have q2 := hwp.1
  have q3 := hwp.2.1
  have q4 := hwi.1
  have q5 := hwi.2.1
  have hs2 : (s : Int) < g (37 * p + 12) := by omega
  refine ev_n (fr' := (4, [some (vr 135), some (vi (p : Int)), some (vi (s : Int)), some (vi x), some (vi y), none, none], [vi (s : Int), vi (p : Int), vr 135, vr 135])) (S' := MS I J cc ss) 4 rfl ?_
  refine ev_cv rfl rfl rfl ⟨Nat.le_of_ble_eq_true rfl, Nat.le_of_ble_eq_true rfl⟩ (sp_isShape_n X _ _ _ _ p (s : Int) hg hws hwp hwi (by omega)) ?_
  show Ev X k_X9_copyShape (7, [some (vr 135), some (vi (p : Int)), some (vi (s : Int)), some (vi x), some (vi y), none, none], [vi (if 0 ≤ (s : Int) ∧ (s : Int) < g (37 * p + 12) then 1 else 0), vr 135]) (MS I J cc ss) _
  refine ev_bne _ rfl (by decide) (fun (g1 : 0 ≤ (s : Int) ∧ (s : Int) < g (37 * p + 12)) => ?_) (fun (g1 : ¬ (0 ≤ (s : Int) ∧ (s : Int) < g (37 * p + 12))) => False.elim (g1 (by omega)))
  show Ev X k_X9_copyShape (14, [some (vr 135), some (vi (p : Int)), some (vi (s : Int)), some (vi x), some (vi y), none, none], [vr 135]) (MS I J cc ss) _
  refine ev_n (fr' := (20, [some (vr 135), some (vi (p : Int)), some (vi (s : Int)), some (vi x), some (vi y), none, none], [vi y, vi x, vi (s : Int), vi (p : Int), vr 135, vr 135])) (S' := MS I J cc ss) 5 rfl ?_
  refine ev_cv rfl rfl rfl ⟨Nat.le_of_ble_eq_true rfl, Nat.le_of_ble_eq_true rfl⟩ (sp_canMove X _ _ _ _ p s x y hg hwp (by omega) (by omega)) ?_
  show Ev X k_X9_copyShape (23, [some (vr 135), some (vi (p : Int)), some (vi (s : Int)), some (vi x), some (vi y), none, none], [vi (if (-48 ≤ x ∧ x ≤ 48) ∧ (-48 ≤ y ∧ y ≤ 48) ∧ canP g p s x y then 1 else 0), vr 135]) (MS I J cc ss) _
  refine ev_bne _ rfl (by decide) (fun (g2 : (-48 ≤ x ∧ x ≤ 48) ∧ (-48 ≤ y ∧ y ≤ 48) ∧ canP g p s x y) => ?_) (fun (g2 : ¬ ((-48 ≤ x ∧ x ≤ 48) ∧ (-48 ≤ y ∧ y ≤ 48) ∧ canP g p s x y)) => False.elim (g2 (⟨h1.1, h1.2, hc⟩)))
  show Ev X k_X9_copyShape (30, [some (vr 135), some (vi (p : Int)), some (vi (s : Int)), some (vi x), some (vi y), none, none], [vr 135]) (MS I J cc ss) _
  refine ev_n (fr' := (32, [some (vr 135), some (vi (p : Int)), some (vi (s : Int)), some (vi x), some (vi y), none, none], [vi (p : Int), vr 135, vr 135])) (S' := MS I J cc ss) 2 rfl ?_
  refine ev_cv rfl rfl rfl ⟨Nat.le_of_ble_eq_true rfl, Nat.le_of_ble_eq_true rfl⟩ (sp_shapesOf_r X _ _ _ _ p hg hwp (by omega)) ?_
  show Ev X k_X9_copyShape (35, [some (vr 135), some (vi (p : Int)), some (vi (s : Int)), some (vi x), some (vi y), none, none], [vi (g (37 * p + 12)), vr 135]) (MS I J cc ss) _
  refine ev_n (fr' := (37, [some (vr 135), some (vi (p : Int)), some (vi (s : Int)), some (vi x), some (vi y), none, none], [vi 6, vi (g (37 * p + 12)), vr 135])) (S' := MS I J cc ss) 1 rfl ?_
  refine ev_ic (c := .ne) (off := 7) rfl (by decide) (fun (g3 : (g (37 * p + 12)) ≠ 6) => ?_) (fun (g3 : ¬ ((g (37 * p + 12)) ≠ 6)) => False.elim (by omega))
  show Ev X k_X9_copyShape (44, [some (vr 135), some (vi (p : Int)), some (vi (s : Int)), some (vi x), some (vi y), none, none], [vr 135]) (MS I J cc ss) _
  refine ev_n (fr' := (45, [some (vr 135), some (vi (p : Int)), some (vi (s : Int)), some (vi x), some (vi y), none, none], [vi 0, vr 135])) (S' := MS I J cc ss) 1 rfl ?_
  refine ev_n (fr' := (48, [some (vr 135), some (vi (p : Int)), some (vi (s : Int)), some (vi x), some (vi y), none, none], [])) (S' := MS (up2 I 135 4 0) J cc ss) 1 rfl ?_
  refine ev_n (fr' := (58, [some (vr 135), some (vi (p : Int)), some (vi (s : Int)), some (vi x), some (vi y), none, none], [vr 135])) (S' := MS (up2 I 135 4 0) J cc ss) 4 rfl ?_
  refine ev_cp rfl rfl rfl ⟨Nat.le_of_ble_eq_true rfl, Nat.le_of_ble_eq_true rfl⟩ (sp_keeps X _ _ _ _ hg (m := m) ((up2_ne2 _ _ _ _ (by decide)).trans hm) hm8 hH) (fun I1 J2 q3 => ?_)
  obtain ⟨rK, hm9, hH9⟩ := q3
  show Ev X k_X9_copyShape (61, [some (vr 135), some (vi (p : Int)), some (vi (s : Int)), some (vi x), some (vi y), none, none], []) (MS I1 J2 cc ss) _
  have hg := (rK.2.2 136 (by decide)).trans hg
  refine ev_n (fr' := (63, [some (vr 135), some (vi (p : Int)), some (vi (s : Int)), some (vi x), some (vi y), none, none], [vi (p : Int), vr 135])) (S' := MS I1 J2 cc ss) 2 rfl ?_
  refine ev_cv rfl rfl rfl ⟨Nat.le_of_ble_eq_true rfl, Nat.le_of_ble_eq_true rfl⟩ (sp_shapesOf_r X _ _ _ _ p hg hwp (by omega)) ?_
  show Ev X k_X9_copyShape (66, [some (vr 135), some (vi (p : Int)), some (vi (s : Int)), some (vi x), some (vi y), none, none], [vi (g (37 * p + 12))]) (MS I1 J2 cc ss) _
  refine ev_eqi (show (g (37 * p + 12)) = (n : Int) from by omega) ?_
  show Ev X k_X9_copyShape (66, [some (vr 135), some (vi (p : Int)), some (vi (s : Int)), some (vi x), some (vi y), none, none], [vi (n : Int)]) (MS I1 J2 cc ss) _
  refine ev_n (fr' := (71, [some (vr 135), some (vi (p : Int)), some (vi (s : Int)), some (vi x), some (vi y), some (vi (n : Int)), some (vi 0)], [])) (S' := MS I1 J2 cc ss) 3 rfl ?_
  refine (lp_rcp X _ _ cc ss _ p s n x y hwp hp hn hsn hn6 h1 0 (by omega) (fun _ _ => rfl) (hg.trans (wrS_0 _ _ _).symm)).mono ?_
  rintro o T ⟨I', J', rfl, rfl, rfl, h8, h9⟩
  exact ⟨_, _, rfl, rfl, nEnd rK hm9 hH9 h8 h9⟩
theorem rb_addUse_x (X : AX) (I J : Nat → Nat → Int) (cc ss : Nat) {g : F1} (u t x y : Int) (hg : J 136 = g) (hws : WS g) (hwp : WP g) (hwi : WI g) (h : ¬ (0 ≤ u ∧ u < g 308)) : Ev X k_X9_addUse (0, [some (vr 135), some (vi u), some (vi t), some (vi x), some (vi y), none], []) (MS I J cc ss) (fun o T => o = .inl (some (vi 0)) ∧ T = MS (up2 I 135 4 1) J cc ss) := by
  have q0 := hws.1
  have q1 := hws.2.1
  have q2 := hwp.1
  have q3 := hwp.2.1
  have q4 := hwi.1
  have q5 := hwi.2.1
  refine ev_n (fr' := (3, [some (vr 135), some (vi u), some (vi t), some (vi x), some (vi y), none], [vi u, vr 135, vr 135])) (S' := MS I J cc ss) 3 rfl ?_
  refine ev_cv rfl rfl rfl ⟨Nat.le_of_ble_eq_true rfl, Nat.le_of_ble_eq_true rfl⟩ (sp_isIcon_r X _ _ _ _ u hg hwi) ?_
  show Ev X k_X9_addUse (6, [some (vr 135), some (vi u), some (vi t), some (vi x), some (vi y), none], [vi (if 0 ≤ u ∧ u ≤ g 308 - 1 then 1 else 0), vr 135]) (MS I J cc ss) _
  refine ev_beq _ rfl (by decide) (fun (g1 : ¬ (0 ≤ u ∧ u ≤ g 308 - 1)) => ?_) (fun (g1 : 0 ≤ u ∧ u ≤ g 308 - 1) => False.elim ((show ¬ (0 ≤ u ∧ u ≤ g 308 - 1) from by omega) g1))
  show Ev X k_X9_addUse (17, [some (vr 135), some (vi u), some (vi t), some (vi x), some (vi y), none], [vr 135]) (MS I J cc ss) _
  refine ev_n (fr' := (55, [some (vr 135), some (vi u), some (vi t), some (vi x), some (vi y), none], [vi 1, vr 135])) (S' := MS I J cc ss) 2 rfl ?_
  refine ev_n (fr' := (58, [some (vr 135), some (vi u), some (vi t), some (vi x), some (vi y), none], [])) (S' := MS (up2 I 135 4 1) J cc ss) 1 rfl ?_
  refine ev_n (fr' := (66, [some (vr 135), some (vi u), some (vi t), some (vi x), some (vi y), none], [vi 0])) (S' := MS (up2 I 135 4 1) J cc ss) 4 rfl ?_
  refine ev_r rfl rfl rfl ?_
  exact ⟨rfl, rfl⟩
theorem rb_addUse_y (X : AX) (I J : Nat → Nat → Int) (cc ss : Nat) {g : F1} (p : Nat) (t x y : Int) (hg : J 136 = g) (hws : WS g) (hwp : WP g) (hwi : WI g) (hp : (p : Int) < g 308) (h : ¬ (0 ≤ t ∧ t < g 11)) : Ev X k_X9_addUse (0, [some (vr 135), some (vi (p : Int)), some (vi t), some (vi x), some (vi y), none], []) (MS I J cc ss) (fun o T => o = .inl (some (vi 0)) ∧ T = MS (up2 I 135 4 1) J cc ss) := by
  have q0 := hws.1
  have q1 := hws.2.1
  have q2 := hwp.1
  have q3 := hwp.2.1
  have q4 := hwi.1
  have q5 := hwi.2.1
  refine ev_n (fr' := (3, [some (vr 135), some (vi (p : Int)), some (vi t), some (vi x), some (vi y), none], [vi (p : Int), vr 135, vr 135])) (S' := MS I J cc ss) 3 rfl ?_
  refine ev_cv rfl rfl rfl ⟨Nat.le_of_ble_eq_true rfl, Nat.le_of_ble_eq_true rfl⟩ (sp_isIcon_r X _ _ _ _ (p : Int) hg hwi) ?_
  show Ev X k_X9_addUse (6, [some (vr 135), some (vi (p : Int)), some (vi t), some (vi x), some (vi y), none], [vi (if 0 ≤ (p : Int) ∧ (p : Int) ≤ g 308 - 1 then 1 else 0), vr 135]) (MS I J cc ss) _
  refine ev_beq _ rfl (by decide) (fun (g1 : ¬ (0 ≤ (p : Int) ∧ (p : Int) ≤ g 308 - 1)) => False.elim (g1 (by omega))) (fun (g1 : 0 ≤ (p : Int) ∧ (p : Int) ≤ g 308 - 1) => ?_)
  show Ev X k_X9_addUse (9, [some (vr 135), some (vi (p : Int)), some (vi t), some (vi x), some (vi y), none], [vr 135]) (MS I J cc ss) _
  refine ev_n (fr' := (11, [some (vr 135), some (vi (p : Int)), some (vi t), some (vi x), some (vi y), none], [vi t, vr 135, vr 135])) (S' := MS I J cc ss) 2 rfl ?_
  refine ev_cv rfl rfl rfl ⟨Nat.le_of_ble_eq_true rfl, Nat.le_of_ble_eq_true rfl⟩ (sp_isPart_r X _ _ _ _ t hg hwp) ?_
  show Ev X k_X9_addUse (14, [some (vr 135), some (vi (p : Int)), some (vi t), some (vi x), some (vi y), none], [vi (if 0 ≤ t ∧ t ≤ g 11 - 1 then 1 else 0), vr 135]) (MS I J cc ss) _
  refine ev_bne _ rfl (by decide) (fun (g2 : 0 ≤ t ∧ t ≤ g 11 - 1) => False.elim ((show ¬ (0 ≤ t ∧ t ≤ g 11 - 1) from by omega) g2)) (fun (g2 : ¬ (0 ≤ t ∧ t ≤ g 11 - 1)) => ?_)
  show Ev X k_X9_addUse (17, [some (vr 135), some (vi (p : Int)), some (vi t), some (vi x), some (vi y), none], [vr 135]) (MS I J cc ss) _
  refine ev_n (fr' := (55, [some (vr 135), some (vi (p : Int)), some (vi t), some (vi x), some (vi y), none], [vi 1, vr 135])) (S' := MS I J cc ss) 2 rfl ?_
  refine ev_n (fr' := (58, [some (vr 135), some (vi (p : Int)), some (vi t), some (vi x), some (vi y), none], [])) (S' := MS (up2 I 135 4 1) J cc ss) 1 rfl ?_
  refine ev_n (fr' := (66, [some (vr 135), some (vi (p : Int)), some (vi t), some (vi x), some (vi y), none], [vi 0])) (S' := MS (up2 I 135 4 1) J cc ss) 4 rfl ?_
  refine ev_r rfl rfl rfl ?_
  exact ⟨rfl, rfl⟩
theorem rb_addUse_z (X : AX) (I J : Nat → Nat → Int) (cc ss : Nat) {g : F1} (p t : Nat) (x y : Int) (hg : J 136 = g) (hws : WS g) (hwp : WP g) (hwi : WI g) (hp : (p : Int) < g 308) (ht : (t : Int) < g 11) (h : ¬ (-48 ≤ x ∧ x ≤ 48)) : Ev X k_X9_addUse (0, [some (vr 135), some (vi (p : Int)), some (vi (t : Int)), some (vi x), some (vi y), none], []) (MS I J cc ss) (fun o T => o = .inl (some (vi 0)) ∧ T = MS (up2 I 135 4 2) J cc ss) := by
  have q0 := hws.1
  have q1 := hws.2.1
  have q2 := hwp.1
  have q3 := hwp.2.1
  have q4 := hwi.1
  have q5 := hwi.2.1
  refine ev_n (fr' := (3, [some (vr 135), some (vi (p : Int)), some (vi (t : Int)), some (vi x), some (vi y), none], [vi (p : Int), vr 135, vr 135])) (S' := MS I J cc ss) 3 rfl ?_
  refine ev_cv rfl rfl rfl ⟨Nat.le_of_ble_eq_true rfl, Nat.le_of_ble_eq_true rfl⟩ (sp_isIcon_r X _ _ _ _ (p : Int) hg hwi) ?_
  show Ev X k_X9_addUse (6, [some (vr 135), some (vi (p : Int)), some (vi (t : Int)), some (vi x), some (vi y), none], [vi (if 0 ≤ (p : Int) ∧ (p : Int) ≤ g 308 - 1 then 1 else 0), vr 135]) (MS I J cc ss) _
  refine ev_beq _ rfl (by decide) (fun (g1 : ¬ (0 ≤ (p : Int) ∧ (p : Int) ≤ g 308 - 1)) => False.elim (g1 (by omega))) (fun (g1 : 0 ≤ (p : Int) ∧ (p : Int) ≤ g 308 - 1) => ?_)
  show Ev X k_X9_addUse (9, [some (vr 135), some (vi (p : Int)), some (vi (t : Int)), some (vi x), some (vi y), none], [vr 135]) (MS I J cc ss) _
  refine ev_n (fr' := (11, [some (vr 135), some (vi (p : Int)), some (vi (t : Int)), some (vi x), some (vi y), none], [vi (t : Int), vr 135, vr 135])) (S' := MS I J cc ss) 2 rfl ?_
  refine ev_cv rfl rfl rfl ⟨Nat.le_of_ble_eq_true rfl, Nat.le_of_ble_eq_true rfl⟩ (sp_isPart_r X _ _ _ _ (t : Int) hg hwp) ?_
  show Ev X k_X9_addUse (14, [some (vr 135), some (vi (p : Int)), some (vi (t : Int)), some (vi x), some (vi y), none], [vi (if 0 ≤ (t : Int) ∧ (t : Int) ≤ g 11 - 1 then 1 else 0), vr 135]) (MS I J cc ss) _
  refine ev_bne _ rfl (by decide) (fun (g2 : 0 ≤ (t : Int) ∧ (t : Int) ≤ g 11 - 1) => ?_) (fun (g2 : ¬ (0 ≤ (t : Int) ∧ (t : Int) ≤ g 11 - 1)) => False.elim (g2 (by omega)))
  show Ev X k_X9_addUse (21, [some (vr 135), some (vi (p : Int)), some (vi (t : Int)), some (vi x), some (vi y), none], [vr 135]) (MS I J cc ss) _
  refine ev_n (fr' := (22, [some (vr 135), some (vi (p : Int)), some (vi (t : Int)), some (vi x), some (vi y), none], [vi x, vr 135])) (S' := MS I J cc ss) 1 rfl ?_
  refine ev_cv rfl rfl rfl ⟨Nat.le_of_ble_eq_true rfl, Nat.le_of_ble_eq_true rfl⟩ (sp_isShift X _ x ) ?_
  show Ev X k_X9_addUse (25, [some (vr 135), some (vi (p : Int)), some (vi (t : Int)), some (vi x), some (vi y), none], [vi (if -48 ≤ x ∧ x ≤ 48 then 1 else 0), vr 135]) (MS I J cc ss) _
  refine ev_beq _ rfl (by decide) (fun (g3 : ¬ (-48 ≤ x ∧ x ≤ 48)) => ?_) (fun (g3 : -48 ≤ x ∧ x ≤ 48) => False.elim ((h) g3))
  show Ev X k_X9_addUse (36, [some (vr 135), some (vi (p : Int)), some (vi (t : Int)), some (vi x), some (vi y), none], [vr 135]) (MS I J cc ss) _
  refine ev_n (fr' := (55, [some (vr 135), some (vi (p : Int)), some (vi (t : Int)), some (vi x), some (vi y), none], [vi 2, vr 135])) (S' := MS I J cc ss) 2 rfl ?_
  refine ev_n (fr' := (58, [some (vr 135), some (vi (p : Int)), some (vi (t : Int)), some (vi x), some (vi y), none], [])) (S' := MS (up2 I 135 4 2) J cc ss) 1 rfl ?_
  refine ev_n (fr' := (66, [some (vr 135), some (vi (p : Int)), some (vi (t : Int)), some (vi x), some (vi y), none], [vi 0])) (S' := MS (up2 I 135 4 2) J cc ss) 4 rfl ?_
  refine ev_r rfl rfl rfl ?_
  exact ⟨rfl, rfl⟩
theorem rb_addUse_v (X : AX) (I J : Nat → Nat → Int) (cc ss : Nat) {g : F1} (p t : Nat) (x y : Int) (hg : J 136 = g) (hws : WS g) (hwp : WP g) (hwi : WI g) (hp : (p : Int) < g 308) (ht : (t : Int) < g 11) (h1 : -48 ≤ x ∧ x ≤ 48) (h : ¬ (-48 ≤ y ∧ y ≤ 48)) : Ev X k_X9_addUse (0, [some (vr 135), some (vi (p : Int)), some (vi (t : Int)), some (vi x), some (vi y), none], []) (MS I J cc ss) (fun o T => o = .inl (some (vi 0)) ∧ T = MS (up2 I 135 4 2) J cc ss) := by
  have q0 := hws.1
  have q1 := hws.2.1
  have q2 := hwp.1
  have q3 := hwp.2.1
  have q4 := hwi.1
  have q5 := hwi.2.1
  refine ev_n (fr' := (3, [some (vr 135), some (vi (p : Int)), some (vi (t : Int)), some (vi x), some (vi y), none], [vi (p : Int), vr 135, vr 135])) (S' := MS I J cc ss) 3 rfl ?_
  refine ev_cv rfl rfl rfl ⟨Nat.le_of_ble_eq_true rfl, Nat.le_of_ble_eq_true rfl⟩ (sp_isIcon_r X _ _ _ _ (p : Int) hg hwi) ?_
  show Ev X k_X9_addUse (6, [some (vr 135), some (vi (p : Int)), some (vi (t : Int)), some (vi x), some (vi y), none], [vi (if 0 ≤ (p : Int) ∧ (p : Int) ≤ g 308 - 1 then 1 else 0), vr 135]) (MS I J cc ss) _
  refine ev_beq _ rfl (by decide) (fun (g1 : ¬ (0 ≤ (p : Int) ∧ (p : Int) ≤ g 308 - 1)) => False.elim (g1 (by omega))) (fun (g1 : 0 ≤ (p : Int) ∧ (p : Int) ≤ g 308 - 1) => ?_)
  show Ev X k_X9_addUse (9, [some (vr 135), some (vi (p : Int)), some (vi (t : Int)), some (vi x), some (vi y), none], [vr 135]) (MS I J cc ss) _
  refine ev_n (fr' := (11, [some (vr 135), some (vi (p : Int)), some (vi (t : Int)), some (vi x), some (vi y), none], [vi (t : Int), vr 135, vr 135])) (S' := MS I J cc ss) 2 rfl ?_
  refine ev_cv rfl rfl rfl ⟨Nat.le_of_ble_eq_true rfl, Nat.le_of_ble_eq_true rfl⟩ (sp_isPart_r X _ _ _ _ (t : Int) hg hwp) ?_
  show Ev X k_X9_addUse (14, [some (vr 135), some (vi (p : Int)), some (vi (t : Int)), some (vi x), some (vi y), none], [vi (if 0 ≤ (t : Int) ∧ (t : Int) ≤ g 11 - 1 then 1 else 0), vr 135]) (MS I J cc ss) _
  refine ev_bne _ rfl (by decide) (fun (g2 : 0 ≤ (t : Int) ∧ (t : Int) ≤ g 11 - 1) => ?_) (fun (g2 : ¬ (0 ≤ (t : Int) ∧ (t : Int) ≤ g 11 - 1)) => False.elim (g2 (by omega)))
  show Ev X k_X9_addUse (21, [some (vr 135), some (vi (p : Int)), some (vi (t : Int)), some (vi x), some (vi y), none], [vr 135]) (MS I J cc ss) _
  refine ev_n (fr' := (22, [some (vr 135), some (vi (p : Int)), some (vi (t : Int)), some (vi x), some (vi y), none], [vi x, vr 135])) (S' := MS I J cc ss) 1 rfl ?_
  refine ev_cv rfl rfl rfl ⟨Nat.le_of_ble_eq_true rfl, Nat.le_of_ble_eq_true rfl⟩ (sp_isShift X _ x ) ?_
  show Ev X k_X9_addUse (25, [some (vr 135), some (vi (p : Int)), some (vi (t : Int)), some (vi x), some (vi y), none], [vi (if -48 ≤ x ∧ x ≤ 48 then 1 else 0), vr 135]) (MS I J cc ss) _
  refine ev_beq _ rfl (by decide) (fun (g3 : ¬ (-48 ≤ x ∧ x ≤ 48)) => False.elim (g3 (h1))) (fun (g3 : -48 ≤ x ∧ x ≤ 48) => ?_)
  show Ev X k_X9_addUse (28, [some (vr 135), some (vi (p : Int)), some (vi (t : Int)), some (vi x), some (vi y), none], [vr 135]) (MS I J cc ss) _
  refine ev_n (fr' := (30, [some (vr 135), some (vi (p : Int)), some (vi (t : Int)), some (vi x), some (vi y), none], [vi y, vr 135])) (S' := MS I J cc ss) 1 rfl ?_
  refine ev_cv rfl rfl rfl ⟨Nat.le_of_ble_eq_true rfl, Nat.le_of_ble_eq_true rfl⟩ (sp_isShift X _ y ) ?_
  show Ev X k_X9_addUse (33, [some (vr 135), some (vi (p : Int)), some (vi (t : Int)), some (vi x), some (vi y), none], [vi (if -48 ≤ y ∧ y ≤ 48 then 1 else 0), vr 135]) (MS I J cc ss) _
  refine ev_bne _ rfl (by decide) (fun (g4 : -48 ≤ y ∧ y ≤ 48) => False.elim ((h) g4)) (fun (g4 : ¬ (-48 ≤ y ∧ y ≤ 48)) => ?_)
  show Ev X k_X9_addUse (36, [some (vr 135), some (vi (p : Int)), some (vi (t : Int)), some (vi x), some (vi y), none], [vr 135]) (MS I J cc ss) _
  refine ev_n (fr' := (55, [some (vr 135), some (vi (p : Int)), some (vi (t : Int)), some (vi x), some (vi y), none], [vi 2, vr 135])) (S' := MS I J cc ss) 2 rfl ?_
  refine ev_n (fr' := (58, [some (vr 135), some (vi (p : Int)), some (vi (t : Int)), some (vi x), some (vi y), none], [])) (S' := MS (up2 I 135 4 2) J cc ss) 1 rfl ?_
  refine ev_n (fr' := (66, [some (vr 135), some (vi (p : Int)), some (vi (t : Int)), some (vi x), some (vi y), none], [vi 0])) (S' := MS (up2 I 135 4 2) J cc ss) 4 rfl ?_
  refine ev_r rfl rfl rfl ?_
  exact ⟨rfl, rfl⟩
theorem rb_addUse_w (X : AX) (I J : Nat → Nat → Int) (cc ss : Nat) {g : F1} (p t : Nat) (x y : Int) (hg : J 136 = g) (hws : WS g) (hwp : WP g) (hwi : WI g) (hp : (p : Int) < g 308) (ht : (t : Int) < g 11) (h1 : -48 ≤ x ∧ x ≤ 48) (h : -48 ≤ y ∧ y ≤ 48) (h6 : g (19 * p + 309) = 6) : Ev X k_X9_addUse (0, [some (vr 135), some (vi (p : Int)), some (vi (t : Int)), some (vi x), some (vi y), none], []) (MS I J cc ss) (fun o T => o = .inl (some (vi 0)) ∧ T = MS (up2 I 135 4 3) J cc ss) := by
  have q0 := hws.1
  have q1 := hws.2.1
  have q2 := hwp.1
  have q3 := hwp.2.1
  have q4 := hwi.1
  have q5 := hwi.2.1
  refine ev_n (fr' := (3, [some (vr 135), some (vi (p : Int)), some (vi (t : Int)), some (vi x), some (vi y), none], [vi (p : Int), vr 135, vr 135])) (S' := MS I J cc ss) 3 rfl ?_
  refine ev_cv rfl rfl rfl ⟨Nat.le_of_ble_eq_true rfl, Nat.le_of_ble_eq_true rfl⟩ (sp_isIcon_r X _ _ _ _ (p : Int) hg hwi) ?_
  show Ev X k_X9_addUse (6, [some (vr 135), some (vi (p : Int)), some (vi (t : Int)), some (vi x), some (vi y), none], [vi (if 0 ≤ (p : Int) ∧ (p : Int) ≤ g 308 - 1 then 1 else 0), vr 135]) (MS I J cc ss) _
  refine ev_beq _ rfl (by decide) (fun (g1 : ¬ (0 ≤ (p : Int) ∧ (p : Int) ≤ g 308 - 1)) => False.elim (g1 (by omega))) (fun (g1 : 0 ≤ (p : Int) ∧ (p : Int) ≤ g 308 - 1) => ?_)
  show Ev X k_X9_addUse (9, [some (vr 135), some (vi (p : Int)), some (vi (t : Int)), some (vi x), some (vi y), none], [vr 135]) (MS I J cc ss) _
  refine ev_n (fr' := (11, [some (vr 135), some (vi (p : Int)), some (vi (t : Int)), some (vi x), some (vi y), none], [vi (t : Int), vr 135, vr 135])) (S' := MS I J cc ss) 2 rfl ?_
  refine ev_cv rfl rfl rfl ⟨Nat.le_of_ble_eq_true rfl, Nat.le_of_ble_eq_true rfl⟩ (sp_isPart_r X _ _ _ _ (t : Int) hg hwp) ?_
  show Ev X k_X9_addUse (14, [some (vr 135), some (vi (p : Int)), some (vi (t : Int)), some (vi x), some (vi y), none], [vi (if 0 ≤ (t : Int) ∧ (t : Int) ≤ g 11 - 1 then 1 else 0), vr 135]) (MS I J cc ss) _
  refine ev_bne _ rfl (by decide) (fun (g2 : 0 ≤ (t : Int) ∧ (t : Int) ≤ g 11 - 1) => ?_) (fun (g2 : ¬ (0 ≤ (t : Int) ∧ (t : Int) ≤ g 11 - 1)) => False.elim (g2 (by omega)))
  show Ev X k_X9_addUse (21, [some (vr 135), some (vi (p : Int)), some (vi (t : Int)), some (vi x), some (vi y), none], [vr 135]) (MS I J cc ss) _
  refine ev_n (fr' := (22, [some (vr 135), some (vi (p : Int)), some (vi (t : Int)), some (vi x), some (vi y), none], [vi x, vr 135])) (S' := MS I J cc ss) 1 rfl ?_
  refine ev_cv rfl rfl rfl ⟨Nat.le_of_ble_eq_true rfl, Nat.le_of_ble_eq_true rfl⟩ (sp_isShift X _ x ) ?_
  show Ev X k_X9_addUse (25, [some (vr 135), some (vi (p : Int)), some (vi (t : Int)), some (vi x), some (vi y), none], [vi (if -48 ≤ x ∧ x ≤ 48 then 1 else 0), vr 135]) (MS I J cc ss) _
  refine ev_beq _ rfl (by decide) (fun (g3 : ¬ (-48 ≤ x ∧ x ≤ 48)) => False.elim (g3 (h1))) (fun (g3 : -48 ≤ x ∧ x ≤ 48) => ?_)
  show Ev X k_X9_addUse (28, [some (vr 135), some (vi (p : Int)), some (vi (t : Int)), some (vi x), some (vi y), none], [vr 135]) (MS I J cc ss) _
  refine ev_n (fr' := (30, [some (vr 135), some (vi (p : Int)), some (vi (t : Int)), some (vi x), some (vi y), none], [vi y, vr 135])) (S' := MS I J cc ss) 1 rfl ?_
  refine ev_cv rfl rfl rfl ⟨Nat.le_of_ble_eq_true rfl, Nat.le_of_ble_eq_true rfl⟩ (sp_isShift X _ y ) ?_
  show Ev X k_X9_addUse (33, [some (vr 135), some (vi (p : Int)), some (vi (t : Int)), some (vi x), some (vi y), none], [vi (if -48 ≤ y ∧ y ≤ 48 then 1 else 0), vr 135]) (MS I J cc ss) _
  refine ev_bne _ rfl (by decide) (fun (g4 : -48 ≤ y ∧ y ≤ 48) => ?_) (fun (g4 : ¬ (-48 ≤ y ∧ y ≤ 48)) => False.elim (g4 (h)))
  show Ev X k_X9_addUse (40, [some (vr 135), some (vi (p : Int)), some (vi (t : Int)), some (vi x), some (vi y), none], [vr 135]) (MS I J cc ss) _
  refine ev_n (fr' := (42, [some (vr 135), some (vi (p : Int)), some (vi (t : Int)), some (vi x), some (vi y), none], [vi (p : Int), vr 135, vr 135])) (S' := MS I J cc ss) 2 rfl ?_
  refine ev_cv rfl rfl rfl ⟨Nat.le_of_ble_eq_true rfl, Nat.le_of_ble_eq_true rfl⟩ (sp_usesOf_r X _ _ _ _ p hg hwi (by omega)) ?_
  show Ev X k_X9_addUse (45, [some (vr 135), some (vi (p : Int)), some (vi (t : Int)), some (vi x), some (vi y), none], [vi (g (19 * p + 309)), vr 135]) (MS I J cc ss) _
  refine ev_n (fr' := (47, [some (vr 135), some (vi (p : Int)), some (vi (t : Int)), some (vi x), some (vi y), none], [vi 6, vi (g (19 * p + 309)), vr 135])) (S' := MS I J cc ss) 1 rfl ?_
  refine ev_ic (c := .ne) (off := 7) rfl (by decide) (fun (g5 : (g (19 * p + 309)) ≠ 6) => False.elim (by omega)) (fun (g5 : ¬ ((g (19 * p + 309)) ≠ 6)) => ?_)
  show Ev X k_X9_addUse (50, [some (vr 135), some (vi (p : Int)), some (vi (t : Int)), some (vi x), some (vi y), none], [vr 135]) (MS I J cc ss) _
  refine ev_n (fr' := (55, [some (vr 135), some (vi (p : Int)), some (vi (t : Int)), some (vi x), some (vi y), none], [vi 3, vr 135])) (S' := MS I J cc ss) 2 rfl ?_
  refine ev_n (fr' := (58, [some (vr 135), some (vi (p : Int)), some (vi (t : Int)), some (vi x), some (vi y), none], [])) (S' := MS (up2 I 135 4 3) J cc ss) 1 rfl ?_
  refine ev_n (fr' := (66, [some (vr 135), some (vi (p : Int)), some (vi (t : Int)), some (vi x), some (vi y), none], [vi 0])) (S' := MS (up2 I 135 4 3) J cc ss) 4 rfl ?_
  refine ev_r rfl rfl rfl ?_
  exact ⟨rfl, rfl⟩
theorem sp_putsUse (X : AX) (I J : Nat → Nat → Int) (cc ss : Nat) {g : F1} (p u : Nat) (t x y : Int) (hg : J 136 = g) (hp : p < 8) (hu : u < 6) (ht : 0 ≤ t ∧ t < 8) (hx : -48 ≤ x ∧ x ≤ 48) (hy : -48 ≤ y ∧ y ≤ 48) : Ev X k_X9_putsUse (0, [some (vr 135), some (vi (p : Int)), some (vi (u : Int)), some (vi t), some (vi x), some (vi y)], []) (MS I J cc ss) (PV cc ss none (fun I' J' => I' = I ∧ (∀ a, a ≠ 136 → J' a = J a) ∧ J' 136 = upd1 (upd1 (upd1 g (19 * p + 3 * u + 310) t) (19 * p + 3 * u + 311) x) (19 * p + 3 * u + 312) y)) := by
  refine ev_n (fr' := (6, [some (vr 135), some (vi (p : Int)), some (vi (u : Int)), some (vi t), some (vi x), some (vi y)], [vi (u : Int), vi (p : Int), vr 136])) (S' := MS I J cc ss) 4 rfl ?_
  refine ev_cv rfl rfl rfl ⟨Nat.le_of_ble_eq_true rfl, Nat.le_of_ble_eq_true rfl⟩ (sp_useAt X _ (p : Int) (u : Int) (by omega)) ?_
  show Ev X k_X9_putsUse (9, [some (vr 135), some (vi (p : Int)), some (vi (u : Int)), some (vi t), some (vi x), some (vi y)], [vi (19 * (p : Int) + 3 * (u : Int) + 310), vr 136]) (MS I J cc ss) _
  refine ev_n (fr' := (11, [some (vr 135), some (vi (p : Int)), some (vi (u : Int)), some (vi t), some (vi x), some (vi y)], [vl t, vi (19 * (p : Int) + 3 * (u : Int) + 310), vr 136])) (S' := MS I J cc ss) 2 rfl ?_
  refine ev_lasN (j := 19 * p + 3 * u + 310) rfl rfl (by omega) (by omega) ?_
  show Ev X k_X9_putsUse (12, [some (vr 135), some (vi (p : Int)), some (vi (u : Int)), some (vi t), some (vi x), some (vi y)], []) (MS I (up2 J 136 (19 * p + 3 * u + 310) t) cc ss) _
  refine ev_n (fr' := (18, [some (vr 135), some (vi (p : Int)), some (vi (u : Int)), some (vi t), some (vi x), some (vi y)], [vi (u : Int), vi (p : Int), vr 136])) (S' := MS I (up2 J 136 (19 * p + 3 * u + 310) t) cc ss) 4 rfl ?_
  refine ev_cv rfl rfl rfl ⟨Nat.le_of_ble_eq_true rfl, Nat.le_of_ble_eq_true rfl⟩ (sp_useAt X _ (p : Int) (u : Int) (by omega)) ?_
  show Ev X k_X9_putsUse (21, [some (vr 135), some (vi (p : Int)), some (vi (u : Int)), some (vi t), some (vi x), some (vi y)], [vi (19 * (p : Int) + 3 * (u : Int) + 310), vr 136]) (MS I (up2 J 136 (19 * p + 3 * u + 310) t) cc ss) _
  refine ev_n (fr' := (22, [some (vr 135), some (vi (p : Int)), some (vi (u : Int)), some (vi t), some (vi x), some (vi y)], [vi 1, vi (19 * (p : Int) + 3 * (u : Int) + 310), vr 136])) (S' := MS I (up2 J 136 (19 * p + 3 * u + 310) t) cc ss) 1 rfl ?_
  refine ev_add (z := 19 * (p : Int) + 3 * (u : Int) + 311) rfl (by omega) (by omega) (by omega) ?_
  show Ev X k_X9_putsUse (23, [some (vr 135), some (vi (p : Int)), some (vi (u : Int)), some (vi t), some (vi x), some (vi y)], [vi (19 * (p : Int) + 3 * (u : Int) + 311), vr 136]) (MS I (up2 J 136 (19 * p + 3 * u + 310) t) cc ss) _
  refine ev_n (fr' := (26, [some (vr 135), some (vi (p : Int)), some (vi (u : Int)), some (vi t), some (vi x), some (vi y)], [vl x, vi (19 * (p : Int) + 3 * (u : Int) + 311), vr 136])) (S' := MS I (up2 J 136 (19 * p + 3 * u + 310) t) cc ss) 2 rfl ?_
  refine ev_lasN (j := 19 * p + 3 * u + 311) rfl rfl (by omega) (by omega) ?_
  show Ev X k_X9_putsUse (27, [some (vr 135), some (vi (p : Int)), some (vi (u : Int)), some (vi t), some (vi x), some (vi y)], []) (MS I (up2 (up2 J 136 (19 * p + 3 * u + 310) t) 136 (19 * p + 3 * u + 311) x) cc ss) _
  refine ev_n (fr' := (33, [some (vr 135), some (vi (p : Int)), some (vi (u : Int)), some (vi t), some (vi x), some (vi y)], [vi (u : Int), vi (p : Int), vr 136])) (S' := MS I (up2 (up2 J 136 (19 * p + 3 * u + 310) t) 136 (19 * p + 3 * u + 311) x) cc ss) 4 rfl ?_
  refine ev_cv rfl rfl rfl ⟨Nat.le_of_ble_eq_true rfl, Nat.le_of_ble_eq_true rfl⟩ (sp_useAt X _ (p : Int) (u : Int) (by omega)) ?_
  show Ev X k_X9_putsUse (36, [some (vr 135), some (vi (p : Int)), some (vi (u : Int)), some (vi t), some (vi x), some (vi y)], [vi (19 * (p : Int) + 3 * (u : Int) + 310), vr 136]) (MS I (up2 (up2 J 136 (19 * p + 3 * u + 310) t) 136 (19 * p + 3 * u + 311) x) cc ss) _
  refine ev_n (fr' := (37, [some (vr 135), some (vi (p : Int)), some (vi (u : Int)), some (vi t), some (vi x), some (vi y)], [vi 2, vi (19 * (p : Int) + 3 * (u : Int) + 310), vr 136])) (S' := MS I (up2 (up2 J 136 (19 * p + 3 * u + 310) t) 136 (19 * p + 3 * u + 311) x) cc ss) 1 rfl ?_
  refine ev_add (z := 19 * (p : Int) + 3 * (u : Int) + 312) rfl (by omega) (by omega) (by omega) ?_
  show Ev X k_X9_putsUse (38, [some (vr 135), some (vi (p : Int)), some (vi (u : Int)), some (vi t), some (vi x), some (vi y)], [vi (19 * (p : Int) + 3 * (u : Int) + 312), vr 136]) (MS I (up2 (up2 J 136 (19 * p + 3 * u + 310) t) 136 (19 * p + 3 * u + 311) x) cc ss) _
  refine ev_n (fr' := (41, [some (vr 135), some (vi (p : Int)), some (vi (u : Int)), some (vi t), some (vi x), some (vi y)], [vl y, vi (19 * (p : Int) + 3 * (u : Int) + 312), vr 136])) (S' := MS I (up2 (up2 J 136 (19 * p + 3 * u + 310) t) 136 (19 * p + 3 * u + 311) x) cc ss) 2 rfl ?_
  refine ev_lasN (j := 19 * p + 3 * u + 312) rfl rfl (by omega) (by omega) ?_
  show Ev X k_X9_putsUse (42, [some (vr 135), some (vi (p : Int)), some (vi (u : Int)), some (vi t), some (vi x), some (vi y)], []) (MS I (up2 (up2 (up2 J 136 (19 * p + 3 * u + 310) t) 136 (19 * p + 3 * u + 311) x) 136 (19 * p + 3 * u + 312) y) cc ss) _
  refine ev_r rfl rfl rfl ?_
  exact ⟨_, _, rfl, rfl, rfl, fun a ha => by rw [up2_row _ _ _ _ ha, up2_row _ _ _ _ ha, up2_row _ _ _ _ ha], up2_u1 (up2_u1 (up2_u1 hg))⟩
theorem rb_addUse (X : AX) (I J : Nat → Nat → Int) (cc ss : Nat) (p t n : Nat) (x y : Int) {g : F1} (hg : J 136 = g) (hws : WS g) (hwp : WP g) (hwi : WI g) {hs : Nat → F1} {m : Nat} (hm : I 135 3 = (m : Int)) (hm8 : m ≤ 8) (hH : MH J hs m) (hp : (p : Int) < g 308) (ht : (t : Int) < g 11) (h1 : (-48 ≤ x ∧ x ≤ 48) ∧ (-48 ≤ y ∧ y ≤ 48)) (hn : g (19 * p + 309) = (n : Int)) (hn6 : n < 6) : Ev X k_X9_addUse (0, [some (vr 135), some (vi (p : Int)), some (vi (t : Int)), some (vi x), some (vi y), none], []) (MS I J cc ss) (PV cc ss (some (vi ((n : Int)))) (fun I' J' => NewR I I' J J' hs m g (auF g p n (t : Int) x y))) := by
  have q0 := hws.1
  have q1 := hws.2.1
  have q2 := hwp.1
  have q3 := hwp.2.1
  have q4 := hwi.1
  have q5 := hwi.2.1
  refine ev_n (fr' := (3, [some (vr 135), some (vi (p : Int)), some (vi (t : Int)), some (vi x), some (vi y), none], [vi (p : Int), vr 135, vr 135])) (S' := MS I J cc ss) 3 rfl ?_
  refine ev_cv rfl rfl rfl ⟨Nat.le_of_ble_eq_true rfl, Nat.le_of_ble_eq_true rfl⟩ (sp_isIcon_r X _ _ _ _ (p : Int) hg hwi) ?_
  show Ev X k_X9_addUse (6, [some (vr 135), some (vi (p : Int)), some (vi (t : Int)), some (vi x), some (vi y), none], [vi (if 0 ≤ (p : Int) ∧ (p : Int) ≤ g 308 - 1 then 1 else 0), vr 135]) (MS I J cc ss) _
  refine ev_beq _ rfl (by decide) (fun (g1 : ¬ (0 ≤ (p : Int) ∧ (p : Int) ≤ g 308 - 1)) => False.elim (g1 (by omega))) (fun (g1 : 0 ≤ (p : Int) ∧ (p : Int) ≤ g 308 - 1) => ?_)
  show Ev X k_X9_addUse (9, [some (vr 135), some (vi (p : Int)), some (vi (t : Int)), some (vi x), some (vi y), none], [vr 135]) (MS I J cc ss) _
  refine ev_n (fr' := (11, [some (vr 135), some (vi (p : Int)), some (vi (t : Int)), some (vi x), some (vi y), none], [vi (t : Int), vr 135, vr 135])) (S' := MS I J cc ss) 2 rfl ?_
  refine ev_cv rfl rfl rfl ⟨Nat.le_of_ble_eq_true rfl, Nat.le_of_ble_eq_true rfl⟩ (sp_isPart_r X _ _ _ _ (t : Int) hg hwp) ?_
  show Ev X k_X9_addUse (14, [some (vr 135), some (vi (p : Int)), some (vi (t : Int)), some (vi x), some (vi y), none], [vi (if 0 ≤ (t : Int) ∧ (t : Int) ≤ g 11 - 1 then 1 else 0), vr 135]) (MS I J cc ss) _
  refine ev_bne _ rfl (by decide) (fun (g2 : 0 ≤ (t : Int) ∧ (t : Int) ≤ g 11 - 1) => ?_) (fun (g2 : ¬ (0 ≤ (t : Int) ∧ (t : Int) ≤ g 11 - 1)) => False.elim (g2 (by omega)))
  show Ev X k_X9_addUse (21, [some (vr 135), some (vi (p : Int)), some (vi (t : Int)), some (vi x), some (vi y), none], [vr 135]) (MS I J cc ss) _
  refine ev_n (fr' := (22, [some (vr 135), some (vi (p : Int)), some (vi (t : Int)), some (vi x), some (vi y), none], [vi x, vr 135])) (S' := MS I J cc ss) 1 rfl ?_
  refine ev_cv rfl rfl rfl ⟨Nat.le_of_ble_eq_true rfl, Nat.le_of_ble_eq_true rfl⟩ (sp_isShift X _ x ) ?_
  show Ev X k_X9_addUse (25, [some (vr 135), some (vi (p : Int)), some (vi (t : Int)), some (vi x), some (vi y), none], [vi (if -48 ≤ x ∧ x ≤ 48 then 1 else 0), vr 135]) (MS I J cc ss) _
  refine ev_beq _ rfl (by decide) (fun (g3 : ¬ (-48 ≤ x ∧ x ≤ 48)) => False.elim (g3 (h1.1))) (fun (g3 : -48 ≤ x ∧ x ≤ 48) => ?_)
  show Ev X k_X9_addUse (28, [some (vr 135), some (vi (p : Int)), some (vi (t : Int)), some (vi x), some (vi y), none], [vr 135]) (MS I J cc ss) _
  refine ev_n (fr' := (30, [some (vr 135), some (vi (p : Int)), some (vi (t : Int)), some (vi x), some (vi y), none], [vi y, vr 135])) (S' := MS I J cc ss) 1 rfl ?_
  refine ev_cv rfl rfl rfl ⟨Nat.le_of_ble_eq_true rfl, Nat.le_of_ble_eq_true rfl⟩ (sp_isShift X _ y ) ?_
  show Ev X k_X9_addUse (33, [some (vr 135), some (vi (p : Int)), some (vi (t : Int)), some (vi x), some (vi y), none], [vi (if -48 ≤ y ∧ y ≤ 48 then 1 else 0), vr 135]) (MS I J cc ss) _
  refine ev_bne _ rfl (by decide) (fun (g4 : -48 ≤ y ∧ y ≤ 48) => ?_) (fun (g4 : ¬ (-48 ≤ y ∧ y ≤ 48)) => False.elim (g4 (h1.2)))
  show Ev X k_X9_addUse (40, [some (vr 135), some (vi (p : Int)), some (vi (t : Int)), some (vi x), some (vi y), none], [vr 135]) (MS I J cc ss) _
  refine ev_n (fr' := (42, [some (vr 135), some (vi (p : Int)), some (vi (t : Int)), some (vi x), some (vi y), none], [vi (p : Int), vr 135, vr 135])) (S' := MS I J cc ss) 2 rfl ?_
  refine ev_cv rfl rfl rfl ⟨Nat.le_of_ble_eq_true rfl, Nat.le_of_ble_eq_true rfl⟩ (sp_usesOf_r X _ _ _ _ p hg hwi (by omega)) ?_
  show Ev X k_X9_addUse (45, [some (vr 135), some (vi (p : Int)), some (vi (t : Int)), some (vi x), some (vi y), none], [vi (g (19 * p + 309)), vr 135]) (MS I J cc ss) _
  refine ev_n (fr' := (47, [some (vr 135), some (vi (p : Int)), some (vi (t : Int)), some (vi x), some (vi y), none], [vi 6, vi (g (19 * p + 309)), vr 135])) (S' := MS I J cc ss) 1 rfl ?_
  refine ev_ic (c := .ne) (off := 7) rfl (by decide) (fun (g5 : (g (19 * p + 309)) ≠ 6) => ?_) (fun (g5 : ¬ ((g (19 * p + 309)) ≠ 6)) => False.elim (by omega))
  show Ev X k_X9_addUse (54, [some (vr 135), some (vi (p : Int)), some (vi (t : Int)), some (vi x), some (vi y), none], [vr 135]) (MS I J cc ss) _
  refine ev_n (fr' := (55, [some (vr 135), some (vi (p : Int)), some (vi (t : Int)), some (vi x), some (vi y), none], [vi 0, vr 135])) (S' := MS I J cc ss) 1 rfl ?_
  refine ev_n (fr' := (58, [some (vr 135), some (vi (p : Int)), some (vi (t : Int)), some (vi x), some (vi y), none], [])) (S' := MS (up2 I 135 4 0) J cc ss) 1 rfl ?_
  refine ev_n (fr' := (68, [some (vr 135), some (vi (p : Int)), some (vi (t : Int)), some (vi x), some (vi y), none], [vr 135])) (S' := MS (up2 I 135 4 0) J cc ss) 4 rfl ?_
  refine ev_cp rfl rfl rfl ⟨Nat.le_of_ble_eq_true rfl, Nat.le_of_ble_eq_true rfl⟩ (sp_keeps X _ _ _ _ hg (m := m) ((up2_ne2 _ _ _ _ (by decide)).trans hm) hm8 hH) (fun I1 J2 q3 => ?_)
  obtain ⟨rK, hm9, hH9⟩ := q3
  show Ev X k_X9_addUse (71, [some (vr 135), some (vi (p : Int)), some (vi (t : Int)), some (vi x), some (vi y), none], []) (MS I1 J2 cc ss) _
  have hg := (rK.2.2 136 (by decide)).trans hg
  refine ev_n (fr' := (73, [some (vr 135), some (vi (p : Int)), some (vi (t : Int)), some (vi x), some (vi y), none], [vi (p : Int), vr 135])) (S' := MS I1 J2 cc ss) 2 rfl ?_
  refine ev_cv rfl rfl rfl ⟨Nat.le_of_ble_eq_true rfl, Nat.le_of_ble_eq_true rfl⟩ (sp_usesOf_r X _ _ _ _ p hg hwi (by omega)) ?_
  show Ev X k_X9_addUse (76, [some (vr 135), some (vi (p : Int)), some (vi (t : Int)), some (vi x), some (vi y), none], [vi (g (19 * p + 309))]) (MS I1 J2 cc ss) _
  refine ev_eqi (show (g (19 * p + 309)) = (n : Int) from by omega) ?_
  show Ev X k_X9_addUse (76, [some (vr 135), some (vi (p : Int)), some (vi (t : Int)), some (vi x), some (vi y), none], [vi (n : Int)]) (MS I1 J2 cc ss) _
  refine ev_n (fr' := (86, [some (vr 135), some (vi (p : Int)), some (vi (t : Int)), some (vi x), some (vi y), some (vi (n : Int))], [vi y, vi x, vi (t : Int), vi (n : Int), vi (p : Int), vr 135])) (S' := MS I1 J2 cc ss) 7 rfl ?_
  refine ev_cp rfl rfl rfl ⟨Nat.le_of_ble_eq_true rfl, Nat.le_of_ble_eq_true rfl⟩ (sp_putsUse X _ _ _ _ p n (t : Int) x y hg (by omega) (by omega) (by omega) (by omega) (by omega)) (fun I1 J4 q5 => ?_)
  obtain ⟨rfl, r136, hg9⟩ := q5
  show Ev X k_X9_addUse (89, [some (vr 135), some (vi (p : Int)), some (vi (t : Int)), some (vi x), some (vi y), some (vi (n : Int))], []) (MS I1 J4 cc ss) _
  refine ev_n (fr' := (99, [some (vr 135), some (vi (p : Int)), some (vi (t : Int)), some (vi x), some (vi y), some (vi (n : Int))], [vi (p : Int), vi 19, vi 309, vr 136])) (S' := MS I1 J4 cc ss) 5 rfl ?_
  refine ev_mul (z := 19 * (p : Int)) rfl (by omega) (by omega) (by omega) ?_
  show Ev X k_X9_addUse (100, [some (vr 135), some (vi (p : Int)), some (vi (t : Int)), some (vi x), some (vi y), some (vi (n : Int))], [vi (19 * (p : Int)), vi 309, vr 136]) (MS I1 J4 cc ss) _
  refine ev_add (z := 19 * (p : Int) + 309) rfl (by omega) (by omega) (by omega) ?_
  show Ev X k_X9_addUse (101, [some (vr 135), some (vi (p : Int)), some (vi (t : Int)), some (vi x), some (vi y), some (vi (n : Int))], [vi (19 * (p : Int) + 309), vr 136]) (MS I1 J4 cc ss) _
  refine ev_n (fr' := (102, [some (vr 135), some (vi (p : Int)), some (vi (t : Int)), some (vi x), some (vi y), some (vi (n : Int))], [vi (19 * (p : Int) + 309), vr 136, vi (19 * (p : Int) + 309), vr 136])) (S' := MS I1 J4 cc ss) 1 rfl ?_
  refine ev_laN (j := 19 * p + 309) (z := (n : Int)) rfl rfl (by omega) (by omega) ((congrFun hg9 _).trans ((upd1_ne _ _ _ (by omega)).trans ((upd1_ne _ _ _ (by omega)).trans ((upd1_ne _ _ _ (by omega)).trans hn)))) ?_
  show Ev X k_X9_addUse (103, [some (vr 135), some (vi (p : Int)), some (vi (t : Int)), some (vi x), some (vi y), some (vi (n : Int))], [vl (n : Int), vi (19 * (p : Int) + 309), vr 136]) (MS I1 J4 cc ss) _
  refine ev_n (fr' := (104, [some (vr 135), some (vi (p : Int)), some (vi (t : Int)), some (vi x), some (vi y), some (vi (n : Int))], [vl 1, vl (n : Int), vi (19 * (p : Int) + 309), vr 136])) (S' := MS I1 J4 cc ss) 1 rfl ?_
  refine ev_ladd (z := (n : Int) + 1) rfl (by omega) (by omega) (by omega) ?_
  show Ev X k_X9_addUse (105, [some (vr 135), some (vi (p : Int)), some (vi (t : Int)), some (vi x), some (vi y), some (vi (n : Int))], [vl ((n : Int) + 1), vi (19 * (p : Int) + 309), vr 136]) (MS I1 J4 cc ss) _
  refine ev_lasN (j := 19 * p + 309) rfl rfl (by omega) (by omega) ?_
  show Ev X k_X9_addUse (106, [some (vr 135), some (vi (p : Int)), some (vi (t : Int)), some (vi x), some (vi y), some (vi (n : Int))], []) (MS I1 (up2 J4 136 (19 * p + 309) ((n : Int) + 1)) cc ss) _
  refine ev_n (fr' := (108, [some (vr 135), some (vi (p : Int)), some (vi (t : Int)), some (vi x), some (vi y), some (vi (n : Int))], [vi (n : Int)])) (S' := MS I1 (up2 J4 136 (19 * p + 309) ((n : Int) + 1)) cc ss) 1 rfl ?_
  refine ev_r rfl rfl rfl ?_
  exact ⟨_, _, rfl, rfl, nEnd rK hm9 hH9 (fun a ha => (up2_row _ _ _ _ ha).trans (r136 a ha)) (up2_u1 hg9)⟩
theorem mu_eq (g : F1) (p s : Nat) (x y : Int) : upd1 (upd1 (upd1 g (19 * p + 3 * s + 310) (g (19 * p + 3 * s + 0 + 310))) (19 * p + 3 * s + 311) x) (19 * p + 3 * s + 312) y = upd1 (upd1 g (19 * p + 3 * s + 1 + 310) x) (19 * p + 3 * s + 2 + 310) y := by
  have e1 : upd1 g (19 * p + 3 * s + 310) (g (19 * p + 3 * s + 0 + 310)) = g := by
    funext k; unfold upd1; split
    · rename_i h; rw [h]
    · rfl
  rw [e1, show 19 * p + 3 * s + 1 + 310 = 19 * p + 3 * s + 311 by omega, show 19 * p + 3 * s + 2 + 310 = 19 * p + 3 * s + 312 by omega]
theorem rb_moveUse (X : AX) (I J : Nat → Nat → Int) (cc ss : Nat) (p s : Nat) (x y : Int) {g : F1} (hg : J 136 = g) (hws : WS g) (hwp : WP g) (hwi : WI g) {hs : Nat → F1} {m : Nat} (hm : I 135 3 = (m : Int)) (hm8 : m ≤ 8) (hH : MH J hs m) (hp : (p : Int) < g 308) (hs2 : (s : Int) < g (19 * p + 309)) (h1 : (-48 ≤ x ∧ x ≤ 48) ∧ (-48 ≤ y ∧ y ≤ 48)) : Ev X k_X9_moveUse (0, [some (vr 135), some (vi (p : Int)), some (vi (s : Int)), some (vi x), some (vi y)], []) (MS I J cc ss) (PV cc ss (some (vi (g (19 * p + 3 * s + 310)))) (fun I' J' => NewR I I' J J' hs m g ((upd1 (upd1 g (19 * p + 3 * s + 1 + 310) x) (19 * p + 3 * s + 2 + 310) y)))) := by
  have q0 := hws.1
  have q1 := hws.2.1
  have q2 := hwp.1
  have q3 := hwp.2.1
  have q4 := hwi.1
  have q5 := hwi.2.1
  have hr := (hwi.2.2 p hp).2.1
  have hr2 := (hwi.2.2 p hp).2.2 s hs2
  have hw9 := WF.mu ⟨hws, hwp, hwi⟩ hp hs2 h1.1 h1.2
  have eo : ∀ k, k ≠ 19 * p + 3 * s + 1 + 310 → k ≠ 19 * p + 3 * s + 2 + 310 → (upd1 (upd1 g (19 * p + 3 * s + 1 + 310) x) (19 * p + 3 * s + 2 + 310) y) k = g k := fun k h1 h2 => (upd1_ne _ _ _ h2).trans (upd1_ne _ _ _ h1)
  refine ev_n (fr' := (4, [some (vr 135), some (vi (p : Int)), some (vi (s : Int)), some (vi x), some (vi y)], [vi (s : Int), vi (p : Int), vr 135, vr 135])) (S' := MS I J cc ss) 4 rfl ?_
  refine ev_cv rfl rfl rfl ⟨Nat.le_of_ble_eq_true rfl, Nat.le_of_ble_eq_true rfl⟩ (sp_isUse_n X _ _ _ _ p (s : Int) hg hws hwp hwi (by omega)) ?_
  show Ev X k_X9_moveUse (7, [some (vr 135), some (vi (p : Int)), some (vi (s : Int)), some (vi x), some (vi y)], [vi (if 0 ≤ (s : Int) ∧ (s : Int) < g (19 * p + 309) then 1 else 0), vr 135]) (MS I J cc ss) _
  refine ev_bne _ rfl (by decide) (fun (g1 : 0 ≤ (s : Int) ∧ (s : Int) < g (19 * p + 309)) => ?_) (fun (g1 : ¬ (0 ≤ (s : Int) ∧ (s : Int) < g (19 * p + 309))) => False.elim (g1 (by omega)))
  show Ev X k_X9_moveUse (14, [some (vr 135), some (vi (p : Int)), some (vi (s : Int)), some (vi x), some (vi y)], [vr 135]) (MS I J cc ss) _
  refine ev_n (fr' := (15, [some (vr 135), some (vi (p : Int)), some (vi (s : Int)), some (vi x), some (vi y)], [vi x, vr 135])) (S' := MS I J cc ss) 1 rfl ?_
  refine ev_cv rfl rfl rfl ⟨Nat.le_of_ble_eq_true rfl, Nat.le_of_ble_eq_true rfl⟩ (sp_isShift X _ x ) ?_
  show Ev X k_X9_moveUse (18, [some (vr 135), some (vi (p : Int)), some (vi (s : Int)), some (vi x), some (vi y)], [vi (if -48 ≤ x ∧ x ≤ 48 then 1 else 0), vr 135]) (MS I J cc ss) _
  refine ev_beq _ rfl (by decide) (fun (g2 : ¬ (-48 ≤ x ∧ x ≤ 48)) => False.elim (g2 (h1.1))) (fun (g2 : -48 ≤ x ∧ x ≤ 48) => ?_)
  show Ev X k_X9_moveUse (21, [some (vr 135), some (vi (p : Int)), some (vi (s : Int)), some (vi x), some (vi y)], [vr 135]) (MS I J cc ss) _
  refine ev_n (fr' := (23, [some (vr 135), some (vi (p : Int)), some (vi (s : Int)), some (vi x), some (vi y)], [vi y, vr 135])) (S' := MS I J cc ss) 1 rfl ?_
  refine ev_cv rfl rfl rfl ⟨Nat.le_of_ble_eq_true rfl, Nat.le_of_ble_eq_true rfl⟩ (sp_isShift X _ y ) ?_
  show Ev X k_X9_moveUse (26, [some (vr 135), some (vi (p : Int)), some (vi (s : Int)), some (vi x), some (vi y)], [vi (if -48 ≤ y ∧ y ≤ 48 then 1 else 0), vr 135]) (MS I J cc ss) _
  refine ev_bne _ rfl (by decide) (fun (g3 : -48 ≤ y ∧ y ≤ 48) => ?_) (fun (g3 : ¬ (-48 ≤ y ∧ y ≤ 48)) => False.elim (g3 (h1.2)))
  show Ev X k_X9_moveUse (33, [some (vr 135), some (vi (p : Int)), some (vi (s : Int)), some (vi x), some (vi y)], [vr 135]) (MS I J cc ss) _
  refine ev_n (fr' := (34, [some (vr 135), some (vi (p : Int)), some (vi (s : Int)), some (vi x), some (vi y)], [vi 0, vr 135])) (S' := MS I J cc ss) 1 rfl ?_
  refine ev_n (fr' := (37, [some (vr 135), some (vi (p : Int)), some (vi (s : Int)), some (vi x), some (vi y)], [])) (S' := MS (up2 I 135 4 0) J cc ss) 1 rfl ?_
  refine ev_n (fr' := (47, [some (vr 135), some (vi (p : Int)), some (vi (s : Int)), some (vi x), some (vi y)], [vr 135])) (S' := MS (up2 I 135 4 0) J cc ss) 4 rfl ?_
  refine ev_cp rfl rfl rfl ⟨Nat.le_of_ble_eq_true rfl, Nat.le_of_ble_eq_true rfl⟩ (sp_keeps X _ _ _ _ hg (m := m) ((up2_ne2 _ _ _ _ (by decide)).trans hm) hm8 hH) (fun I1 J2 q3 => ?_)
  obtain ⟨rK, hm9, hH9⟩ := q3
  show Ev X k_X9_moveUse (50, [some (vr 135), some (vi (p : Int)), some (vi (s : Int)), some (vi x), some (vi y)], []) (MS I1 J2 cc ss) _
  have hg := (rK.2.2 136 (by decide)).trans hg
  refine ev_n (fr' := (57, [some (vr 135), some (vi (p : Int)), some (vi (s : Int)), some (vi x), some (vi y)], [vi 0, vi (s : Int), vi (p : Int), vr 135, vi (s : Int), vi (p : Int), vr 135])) (S' := MS I1 J2 cc ss) 7 rfl ?_
  refine ev_cv rfl rfl rfl ⟨Nat.le_of_ble_eq_true rfl, Nat.le_of_ble_eq_true rfl⟩ (sp_ofUse_r X _ _ _ _ p s 0 hg hwp hwi (by omega) (by omega) (by omega)) ?_
  show Ev X k_X9_moveUse (60, [some (vr 135), some (vi (p : Int)), some (vi (s : Int)), some (vi x), some (vi y)], [vi (g (19 * p + 3 * s + 310)), vi (s : Int), vi (p : Int), vr 135]) (MS I1 J2 cc ss) _
  refine ev_n (fr' := (63, [some (vr 135), some (vi (p : Int)), some (vi (s : Int)), some (vi x), some (vi y)], [vi y, vi x, vi (g (19 * p + 3 * s + 310)), vi (s : Int), vi (p : Int), vr 135])) (S' := MS I1 J2 cc ss) 2 rfl ?_
  refine ev_cp rfl rfl rfl ⟨Nat.le_of_ble_eq_true rfl, Nat.le_of_ble_eq_true rfl⟩ (sp_putsUse X _ _ _ _ p s (g (19 * p + 3 * s + 0 + 310)) x y hg (by omega) (by omega) (by rw [Nat.add_zero]; omega) h1.1 h1.2) (fun I1 J4 q5 => ?_)
  obtain ⟨rfl, r136, hg8⟩ := q5
  show Ev X k_X9_moveUse (66, [some (vr 135), some (vi (p : Int)), some (vi (s : Int)), some (vi x), some (vi y)], []) (MS I1 J4 cc ss) _
  have hg9 : J4 136 = (upd1 (upd1 g (19 * p + 3 * s + 1 + 310) x) (19 * p + 3 * s + 2 + 310) y) := hg8.trans (mu_eq g p s x y)
  refine ev_n (fr' := (70, [some (vr 135), some (vi (p : Int)), some (vi (s : Int)), some (vi x), some (vi y)], [vi 0, vi (s : Int), vi (p : Int), vr 135])) (S' := MS I1 J4 cc ss) 4 rfl ?_
  refine ev_cv rfl rfl rfl ⟨Nat.le_of_ble_eq_true rfl, Nat.le_of_ble_eq_true rfl⟩ (sp_ofUse_r X _ _ _ _ p s 0 hg9 hw9.2.1 hw9.2.2 (by rw [eo _ (by omega) (by omega)]; exact hp) (by rw [eo _ (by omega) (by omega)]; exact hs2) (by omega)) ?_
  show Ev X k_X9_moveUse (73, [some (vr 135), some (vi (p : Int)), some (vi (s : Int)), some (vi x), some (vi y)], [vi ((upd1 (upd1 g (19 * p + 3 * s + 1 + 310) x) (19 * p + 3 * s + 2 + 310) y) (19 * p + 3 * s + 0 + 310))]) (MS I1 J4 cc ss) _
  refine ev_r rfl rfl rfl ?_
  exact ⟨_, _, rfl, congrArg (fun z => Sum.inl (some (vi z))) (eo _ (by omega) (by omega)), nEnd rK hm9 hH9 r136 hg9⟩
theorem rb_addSize_x (X : AX) (I J : Nat → Nat → Int) (cc ss : Nat) {g : F1} (x : Int) (hg : J 136 = g) (hws : WS g) (hwp : WP g) (hwi : WI g) (h : ¬ (4 ≤ x ∧ x ≤ 32)) : Ev X k_X9_addSize (0, [some (vr 135), some (vi x)], []) (MS I J cc ss) (fun o T => o = .inl (some (vi 0)) ∧ T = MS (up2 I 135 4 1) J cc ss) := by
  have q0 := hws.1
  have q1 := hws.2.1
  have q2 := hwp.1
  have q3 := hwp.2.1
  have q4 := hwi.1
  have q5 := hwi.2.1
  refine ev_n (fr' := (9, [some (vr 135), some (vi x)], [vl 32, vl 4, vl x, vr 135])) (S' := MS I J cc ss) 5 rfl ?_
  refine ev_cv rfl rfl rfl ⟨Nat.le_of_ble_eq_true rfl, Nat.le_of_ble_eq_true rfl⟩ (sp_isIn X _ x 4 32 ) ?_
  show Ev X k_X9_addSize (12, [some (vr 135), some (vi x)], [vi (if 4 ≤ x ∧ x ≤ 32 then 1 else 0), vr 135]) (MS I J cc ss) _
  refine ev_bne _ rfl (by decide) (fun (g1 : 4 ≤ x ∧ x ≤ 32) => False.elim ((h) g1)) (fun (g1 : ¬ (4 ≤ x ∧ x ≤ 32)) => ?_)
  show Ev X k_X9_addSize (15, [some (vr 135), some (vi x)], [vr 135]) (MS I J cc ss) _
  refine ev_n (fr' := (48, [some (vr 135), some (vi x)], [vi 1, vr 135])) (S' := MS I J cc ss) 2 rfl ?_
  refine ev_n (fr' := (51, [some (vr 135), some (vi x)], [])) (S' := MS (up2 I 135 4 1) J cc ss) 1 rfl ?_
  refine ev_n (fr' := (59, [some (vr 135), some (vi x)], [vi 0])) (S' := MS (up2 I 135 4 1) J cc ss) 4 rfl ?_
  refine ev_r rfl rfl rfl ?_
  exact ⟨rfl, rfl⟩
theorem rb_addSize_y (X : AX) (I J : Nat → Nat → Int) (cc ss : Nat) {g : F1} (x : Int) (hg : J 136 = g) (hws : WS g) (hwp : WP g) (hwi : WI g) (h1 : 4 ≤ x ∧ x ≤ 32) (h : g 0 = 5) : Ev X k_X9_addSize (0, [some (vr 135), some (vi x)], []) (MS I J cc ss) (fun o T => o = .inl (some (vi 0)) ∧ T = MS (up2 I 135 4 2) J cc ss) := by
  have q0 := hws.1
  have q1 := hws.2.1
  have q2 := hwp.1
  have q3 := hwp.2.1
  have q4 := hwi.1
  have q5 := hwi.2.1
  refine ev_n (fr' := (9, [some (vr 135), some (vi x)], [vl 32, vl 4, vl x, vr 135])) (S' := MS I J cc ss) 5 rfl ?_
  refine ev_cv rfl rfl rfl ⟨Nat.le_of_ble_eq_true rfl, Nat.le_of_ble_eq_true rfl⟩ (sp_isIn X _ x 4 32 ) ?_
  show Ev X k_X9_addSize (12, [some (vr 135), some (vi x)], [vi (if 4 ≤ x ∧ x ≤ 32 then 1 else 0), vr 135]) (MS I J cc ss) _
  refine ev_bne _ rfl (by decide) (fun (g1 : 4 ≤ x ∧ x ≤ 32) => ?_) (fun (g1 : ¬ (4 ≤ x ∧ x ≤ 32)) => False.elim (g1 (h1)))
  show Ev X k_X9_addSize (19, [some (vr 135), some (vi x)], [vr 135]) (MS I J cc ss) _
  refine ev_n (fr' := (24, [some (vr 135), some (vi x)], [vi 0, vr 136, vr 135])) (S' := MS I J cc ss) 3 rfl ?_
  refine ev_laN (j := 0) (z := (g 0)) rfl rfl (by omega) (by omega) (congrFun hg _) ?_
  show Ev X k_X9_addSize (25, [some (vr 135), some (vi x)], [vl (g 0), vr 135]) (MS I J cc ss) _
  refine ev_n (fr' := (28, [some (vr 135), some (vi x)], [vl 5, vl (g 0), vr 135])) (S' := MS I J cc ss) 1 rfl ?_
  refine ev_lc (c := .eq) (off := 14) rfl rfl (by decide) (fun (g2 : (g 0) = 5) => ?_) (fun (g2 : ¬ ((g 0) = 5)) => False.elim (by omega))
  show Ev X k_X9_addSize (43, [some (vr 135), some (vi x)], [vr 135]) (MS I J cc ss) _
  refine ev_n (fr' := (48, [some (vr 135), some (vi x)], [vi 2, vr 135])) (S' := MS I J cc ss) 2 rfl ?_
  refine ev_n (fr' := (51, [some (vr 135), some (vi x)], [])) (S' := MS (up2 I 135 4 2) J cc ss) 1 rfl ?_
  refine ev_n (fr' := (59, [some (vr 135), some (vi x)], [vi 0])) (S' := MS (up2 I 135 4 2) J cc ss) 4 rfl ?_
  refine ev_r rfl rfl rfl ?_
  exact ⟨rfl, rfl⟩
theorem rb_addSize_z (X : AX) (I J : Nat → Nat → Int) (cc ss : Nat) {g : F1} (x : Int) (hg : J 136 = g) (hws : WS g) (hwp : WP g) (hwi : WI g) (h1 : 4 ≤ x ∧ x ≤ 32) (h2 : g 0 ≠ 5) (h : 0 ≤ fnd (fun r => g (2 * r + 1)) x (g 0).toNat 0) : Ev X k_X9_addSize (0, [some (vr 135), some (vi x)], []) (MS I J cc ss) (fun o T => o = .inl (some (vi 0)) ∧ T = MS (up2 I 135 4 2) J cc ss) := by
  have q0 := hws.1
  have q1 := hws.2.1
  have q2 := hwp.1
  have q3 := hwp.2.1
  have q4 := hwi.1
  have q5 := hwi.2.1
  refine ev_n (fr' := (9, [some (vr 135), some (vi x)], [vl 32, vl 4, vl x, vr 135])) (S' := MS I J cc ss) 5 rfl ?_
  refine ev_cv rfl rfl rfl ⟨Nat.le_of_ble_eq_true rfl, Nat.le_of_ble_eq_true rfl⟩ (sp_isIn X _ x 4 32 ) ?_
  show Ev X k_X9_addSize (12, [some (vr 135), some (vi x)], [vi (if 4 ≤ x ∧ x ≤ 32 then 1 else 0), vr 135]) (MS I J cc ss) _
  refine ev_bne _ rfl (by decide) (fun (g1 : 4 ≤ x ∧ x ≤ 32) => ?_) (fun (g1 : ¬ (4 ≤ x ∧ x ≤ 32)) => False.elim (g1 (h1)))
  show Ev X k_X9_addSize (19, [some (vr 135), some (vi x)], [vr 135]) (MS I J cc ss) _
  refine ev_n (fr' := (24, [some (vr 135), some (vi x)], [vi 0, vr 136, vr 135])) (S' := MS I J cc ss) 3 rfl ?_
  refine ev_laN (j := 0) (z := (g 0)) rfl rfl (by omega) (by omega) (congrFun hg _) ?_
  show Ev X k_X9_addSize (25, [some (vr 135), some (vi x)], [vl (g 0), vr 135]) (MS I J cc ss) _
  refine ev_n (fr' := (28, [some (vr 135), some (vi x)], [vl 5, vl (g 0), vr 135])) (S' := MS I J cc ss) 1 rfl ?_
  refine ev_lc (c := .eq) (off := 14) rfl rfl (by decide) (fun (g2 : (g 0) = 5) => False.elim (by omega)) (fun (g2 : ¬ ((g 0) = 5)) => ?_)
  show Ev X k_X9_addSize (32, [some (vr 135), some (vi x)], [vr 135]) (MS I J cc ss) _
  refine ev_n (fr' := (37, [some (vr 135), some (vi x)], [vi x, vr 136, vr 135])) (S' := MS I J cc ss) 3 rfl ?_
  refine ev_cv rfl rfl rfl ⟨Nat.le_of_ble_eq_true rfl, Nat.le_of_ble_eq_true rfl⟩ (sp_hasSize_136 X _ _ _ _ x hg hws) ?_
  show Ev X k_X9_addSize (40, [some (vr 135), some (vi x)], [vi (if 0 ≤ fnd (fun r => g (2 * r + 1)) x (g 0).toNat 0 then 1 else 0), vr 135]) (MS I J cc ss) _
  refine ev_beq _ rfl (by decide) (fun (g3 : ¬ (0 ≤ fnd (fun r => g (2 * r + 1)) x (g 0).toNat 0)) => False.elim (g3 (h))) (fun (g3 : 0 ≤ fnd (fun r => g (2 * r + 1)) x (g 0).toNat 0) => ?_)
  show Ev X k_X9_addSize (43, [some (vr 135), some (vi x)], [vr 135]) (MS I J cc ss) _
  refine ev_n (fr' := (48, [some (vr 135), some (vi x)], [vi 2, vr 135])) (S' := MS I J cc ss) 2 rfl ?_
  refine ev_n (fr' := (51, [some (vr 135), some (vi x)], [])) (S' := MS (up2 I 135 4 2) J cc ss) 1 rfl ?_
  refine ev_n (fr' := (59, [some (vr 135), some (vi x)], [vi 0])) (S' := MS (up2 I 135 4 2) J cc ss) 4 rfl ?_
  refine ev_r rfl rfl rfl ?_
  exact ⟨rfl, rfl⟩
theorem rb_addSize (X : AX) (I J : Nat → Nat → Int) (cc ss : Nat) (x : Int) (n : Nat) {g : F1} (hg : J 136 = g) (hws : WS g) (hwp : WP g) (hwi : WI g) {hs : Nat → F1} {m : Nat} (hm : I 135 3 = (m : Int)) (hm8 : m ≤ 8) (hH : MH J hs m) (h1 : 4 ≤ x ∧ x ≤ 32) (hn : g 0 = (n : Int)) (hn5 : n < 5) (h : ¬ 0 ≤ fnd (fun r => g (2 * r + 1)) x (g 0).toNat 0) : Ev X k_X9_addSize (0, [some (vr 135), some (vi x)], []) (MS I J cc ss) (PZ cc ss (fun z I' J' => ∃ pl : Nat, z = (pl : Int) ∧ pl ≤ n ∧ (∀ j, j < pl → g (2 * j + 1) < x) ∧ (pl = n ∨ x ≤ g (2 * pl + 1)) ∧ NewR I I' J J' hs m g (insF g pl n x 0))) := by
  have q0 := hws.1
  have q1 := hws.2.1
  have q2 := hwp.1
  have q3 := hwp.2.1
  have q4 := hwi.1
  have q5 := hwi.2.1
  refine ev_n (fr' := (9, [some (vr 135), some (vi x)], [vl 32, vl 4, vl x, vr 135])) (S' := MS I J cc ss) 5 rfl ?_
  refine ev_cv rfl rfl rfl ⟨Nat.le_of_ble_eq_true rfl, Nat.le_of_ble_eq_true rfl⟩ (sp_isIn X _ x 4 32 ) ?_
  show Ev X k_X9_addSize (12, [some (vr 135), some (vi x)], [vi (if 4 ≤ x ∧ x ≤ 32 then 1 else 0), vr 135]) (MS I J cc ss) _
  refine ev_bne _ rfl (by decide) (fun (g1 : 4 ≤ x ∧ x ≤ 32) => ?_) (fun (g1 : ¬ (4 ≤ x ∧ x ≤ 32)) => False.elim (g1 (h1)))
  show Ev X k_X9_addSize (19, [some (vr 135), some (vi x)], [vr 135]) (MS I J cc ss) _
  refine ev_n (fr' := (24, [some (vr 135), some (vi x)], [vi 0, vr 136, vr 135])) (S' := MS I J cc ss) 3 rfl ?_
  refine ev_laN (j := 0) (z := (g 0)) rfl rfl (by omega) (by omega) (congrFun hg _) ?_
  show Ev X k_X9_addSize (25, [some (vr 135), some (vi x)], [vl (g 0), vr 135]) (MS I J cc ss) _
  refine ev_n (fr' := (28, [some (vr 135), some (vi x)], [vl 5, vl (g 0), vr 135])) (S' := MS I J cc ss) 1 rfl ?_
  refine ev_lc (c := .eq) (off := 14) rfl rfl (by decide) (fun (g2 : (g 0) = 5) => False.elim (by omega)) (fun (g2 : ¬ ((g 0) = 5)) => ?_)
  show Ev X k_X9_addSize (32, [some (vr 135), some (vi x)], [vr 135]) (MS I J cc ss) _
  refine ev_n (fr' := (37, [some (vr 135), some (vi x)], [vi x, vr 136, vr 135])) (S' := MS I J cc ss) 3 rfl ?_
  refine ev_cv rfl rfl rfl ⟨Nat.le_of_ble_eq_true rfl, Nat.le_of_ble_eq_true rfl⟩ (sp_hasSize_136 X _ _ _ _ x hg hws) ?_
  show Ev X k_X9_addSize (40, [some (vr 135), some (vi x)], [vi (if 0 ≤ fnd (fun r => g (2 * r + 1)) x (g 0).toNat 0 then 1 else 0), vr 135]) (MS I J cc ss) _
  refine ev_beq _ rfl (by decide) (fun (g3 : ¬ (0 ≤ fnd (fun r => g (2 * r + 1)) x (g 0).toNat 0)) => ?_) (fun (g3 : 0 ≤ fnd (fun r => g (2 * r + 1)) x (g 0).toNat 0) => False.elim ((h) g3))
  show Ev X k_X9_addSize (47, [some (vr 135), some (vi x)], [vr 135]) (MS I J cc ss) _
  refine ev_n (fr' := (48, [some (vr 135), some (vi x)], [vi 0, vr 135])) (S' := MS I J cc ss) 1 rfl ?_
  refine ev_n (fr' := (51, [some (vr 135), some (vi x)], [])) (S' := MS (up2 I 135 4 0) J cc ss) 1 rfl ?_
  refine ev_n (fr' := (61, [some (vr 135), some (vi x)], [vr 135])) (S' := MS (up2 I 135 4 0) J cc ss) 4 rfl ?_
  refine ev_cp rfl rfl rfl ⟨Nat.le_of_ble_eq_true rfl, Nat.le_of_ble_eq_true rfl⟩ (sp_keeps X _ _ _ _ hg (m := m) ((up2_ne2 _ _ _ _ (by decide)).trans hm) hm8 hH) (fun I1 J2 q3 => ?_)
  obtain ⟨rK, hm9, hH9⟩ := q3
  show Ev X k_X9_addSize (64, [some (vr 135), some (vi x)], []) (MS I1 J2 cc ss) _
  have hg := (rK.2.2 136 (by decide)).trans hg
  refine ev_n (fr' := (70, [some (vr 135), some (vi x)], [vi 0, vi x, vr 136])) (S' := MS I1 J2 cc ss) 4 rfl ?_
  refine ev_cz rfl rfl rfl ⟨Nat.le_of_ble_eq_true rfl, Nat.le_of_ble_eq_true rfl⟩ (sp_putsSize_136 X _ _ _ _ hg n x 0 hn hn5 (by omega) (by omega)) (fun z9 I1 J4 q5 => ?_)
  obtain ⟨rfl, r136, pl, hpl, hp1, hp2, hp3, hg9⟩ := q5
  show Ev X k_X9_addSize (73, [some (vr 135), some (vi x)], [vi z9]) (MS I1 J4 cc ss) _
  refine ev_r rfl rfl rfl ?_
  exact ⟨_, _, _, rfl, rfl, pl, hpl, hp1, hp2, hp3, nEnd rK hm9 hH9 r136 hg9⟩
theorem rb_undo_x (X : AX) (I J : Nat → Nat → Int) (cc ss : Nat) {m : Nat} (hm : I 135 3 = (m : Int)) (h : m = 0) : Ev X k_X9_undo (0, [some (vr 135), none], []) (MS I J cc ss) (fun o T => o = .inl (some (vi 0)) ∧ T = MS (up2 I 135 4 1) J cc ss) := by
  refine ev_n (fr' := (5, [some (vr 135), none], [vi (I 135 3), vr 135])) (S' := MS I J cc ss) 3 rfl ?_
  refine ev_eqi (hm) ?_
  show Ev X k_X9_undo (5, [some (vr 135), none], [vi (m : Int), vr 135]) (MS I J cc ss) _
  refine ev_if (c := .ne) (off := 7) rfl (by decide) (fun (g1 : (m : Int) ≠ 0) => False.elim (by omega)) (fun (g1 : ¬ ((m : Int) ≠ 0)) => ?_)
  show Ev X k_X9_undo (8, [some (vr 135), none], [vr 135]) (MS I J cc ss) _
  refine ev_n (fr' := (13, [some (vr 135), none], [vi 1, vr 135])) (S' := MS I J cc ss) 2 rfl ?_
  refine ev_n (fr' := (16, [some (vr 135), none], [])) (S' := MS (up2 I 135 4 1) J cc ss) 1 rfl ?_
  refine ev_n (fr' := (24, [some (vr 135), none], [vi 0])) (S' := MS (up2 I 135 4 1) J cc ss) 4 rfl ?_
  refine ev_r rfl rfl rfl ?_
  exact ⟨rfl, rfl⟩
theorem rb_undo (X : AX) (I J : Nat → Nat → Int) (cc ss : Nat) {hs : Nat → F1} {m : Nat} (hm : I 135 3 = (m : Int)) (hm8 : m ≤ 8) (hH : MH J hs m) (hm0 : 0 < m) : Ev X k_X9_undo (0, [some (vr 135), none], []) (MS I J cc ss) (PV cc ss (some (vi ((m - 1 : Nat) : Int))) (fun I' J' => onlyN I I' J J' ∧ J' 138 = J 138 ∧ I' 135 3 = ((m - 1 : Nat) : Int) ∧ ∀ k, k < 477 → J' 136 k = hs (m - 1) k)) := by
  refine ev_n (fr' := (5, [some (vr 135), none], [vi (I 135 3), vr 135])) (S' := MS I J cc ss) 3 rfl ?_
  refine ev_eqi (hm) ?_
  show Ev X k_X9_undo (5, [some (vr 135), none], [vi (m : Int), vr 135]) (MS I J cc ss) _
  refine ev_if (c := .ne) (off := 7) rfl (by decide) (fun (g1 : (m : Int) ≠ 0) => ?_) (fun (g1 : ¬ ((m : Int) ≠ 0)) => False.elim (by omega))
  show Ev X k_X9_undo (12, [some (vr 135), none], [vr 135]) (MS I J cc ss) _
  refine ev_n (fr' := (13, [some (vr 135), none], [vi 0, vr 135])) (S' := MS I J cc ss) 1 rfl ?_
  refine ev_n (fr' := (16, [some (vr 135), none], [])) (S' := MS (up2 I 135 4 0) J cc ss) 1 rfl ?_
  refine ev_n (fr' := (30, [some (vr 135), none], [vi (I 135 3), vr 135])) (S' := MS (up2 I 135 4 0) J cc ss) 6 rfl ?_
  refine ev_eqi (hm) ?_
  show Ev X k_X9_undo (30, [some (vr 135), none], [vi (m : Int), vr 135]) (MS (up2 I 135 4 0) J cc ss) _
  refine ev_n (fr' := (31, [some (vr 135), none], [vi 1, vi (m : Int), vr 135])) (S' := MS (up2 I 135 4 0) J cc ss) 1 rfl ?_
  refine ev_sub (z := (m : Int) - 1) rfl (by omega) (by omega) (by omega) ?_
  show Ev X k_X9_undo (32, [some (vr 135), none], [vi ((m : Int) - 1), vr 135]) (MS (up2 I 135 4 0) J cc ss) _
  refine ev_n (fr' := (35, [some (vr 135), none], [])) (S' := MS (up2 (up2 I 135 4 0) 135 3 ((m : Int) - 1)) J cc ss) 1 rfl ?_
  refine ev_n (fr' := (37, [some (vr 135), some (vi 0)], [])) (S' := MS (up2 (up2 I 135 4 0) 135 3 ((m : Int) - 1)) J cc ss) 2 rfl ?_
  refine (lp_undo X _ _ cc ss J (m := m - 1) (by rw [up2_same]; omega) (by omega) 0 (by omega) (fun _ _ => rfl) (fun q => (if_neg (by omega)).symm)).mono ?_
  rintro o T ⟨I', J', rfl, rfl, rfl, h8, h9⟩
  exact ⟨_, _, rfl, rfl, ⟨fun a ha => by rw [up2_row _ _ _ _ ha, up2_row _ _ _ _ ha], fun f h3 h4 => by rw [up2_ne2 _ _ _ _ h3, up2_ne2 _ _ _ _ h4], by rw [up2_ne2 _ _ _ _ (by decide), up2_same], fun a h6 _ => h8 a h6⟩, by rw [h8 138 (by decide)], by rw [up2_same]; omega, fun k hk => by rw [h9 k, if_pos hk]; exact hH (m - 1) k (by omega) hk⟩
