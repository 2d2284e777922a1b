/-! PUBLIC QUESTIONS, reference: drawings (printed by gen/g77.py) -/
theorem sp_isOut0 (X : AX) (I J : Nat → Nat → Int) (cc ss : Nat) {g : F1} (i k : Nat) (hg : J 136 = g) (hws : WS g) (hwp : WP g) (hwi : WI g) (hi : (i : Int) < g 308) (hk : (k : Int) < g 0) : Ev X k_X9_isOut (0, [some (vr 135), some (vi (i : Int)), some (vi (k : Int))], []) (MS I J cc ss) (fun o T => o = .inl (some (vi 0)) ∧ T = MS I J cc ss) := by
  have q0 := hws.1
  have q1 := hws.2.1
  have q2 := hwp.1
  have q3 := hwp.2.1
  have q4 := hwi.1
  have q5 := hwi.2.1
  refine ev_n (fr' := (2, [some (vr 135), some (vi (i : Int)), some (vi (k : Int))], [vi (i : Int), vr 135])) (S' := MS I J cc ss) 2 rfl ?_
  refine ev_cv rfl rfl rfl ⟨Nat.le_of_ble_eq_true rfl, Nat.le_of_ble_eq_true rfl⟩ (sp_isIcon_r X _ _ _ _ (i : Int) hg hwi) ?_
  show Ev X k_X9_isOut (5, [some (vr 135), some (vi (i : Int)), some (vi (k : Int))], [vi (if 0 ≤ (i : Int) ∧ (i : Int) ≤ g 308 - 1 then 1 else 0)]) (MS I J cc ss) _
  refine ev_beq _ rfl (by decide) (fun (g1 : ¬ (0 ≤ (i : Int) ∧ (i : Int) ≤ g 308 - 1)) => False.elim (g1 (by omega))) (fun (g1 : 0 ≤ (i : Int) ∧ (i : Int) ≤ g 308 - 1) => ?_)
  show Ev X k_X9_isOut (8, [some (vr 135), some (vi (i : Int)), some (vi (k : Int))], []) (MS I J cc ss) _
  refine ev_n (fr' := (10, [some (vr 135), some (vi (i : Int)), some (vi (k : Int))], [vi (k : Int), vr 135])) (S' := MS I J cc ss) 2 rfl ?_
  refine ev_cv rfl rfl rfl ⟨Nat.le_of_ble_eq_true rfl, Nat.le_of_ble_eq_true rfl⟩ (sp_isSize_r X _ _ _ _ (k : Int) hg hws) ?_
  show Ev X k_X9_isOut (13, [some (vr 135), some (vi (i : Int)), some (vi (k : Int))], [vi (if 0 ≤ (k : Int) ∧ (k : Int) ≤ g 0 - 1 then 1 else 0)]) (MS I J cc ss) _
  refine ev_bne _ rfl (by decide) (fun (g2 : 0 ≤ (k : Int) ∧ (k : Int) ≤ g 0 - 1) => ?_) (fun (g2 : ¬ (0 ≤ (k : Int) ∧ (k : Int) ≤ g 0 - 1)) => False.elim (g2 (by omega)))
  show Ev X k_X9_isOut (20, [some (vr 135), some (vi (i : Int)), some (vi (k : Int))], []) (MS I J cc ss) _
  refine ev_n (fr' := (21, [some (vr 135), some (vi (i : Int)), some (vi (k : Int))], [vi 0])) (S' := MS I J cc ss) 1 rfl ?_
  refine ev_r rfl rfl rfl ?_
  exact ⟨rfl, rfl⟩
theorem sp_isOut1 (X : AX) (I J : Nat → Nat → Int) (cc ss : Nat) {g : F1} (y z : Int) (hg : J 136 = g) (hws : WS g) (hwp : WP g) (hwi : WI g) (h : ¬ ((0 ≤ y ∧ y < g 308) ∧ (0 ≤ z ∧ z < g 0))) : Ev X k_X9_isOut (0, [some (vr 135), some (vi y), some (vi z)], []) (MS I J cc ss) (fun o T => o = .inl (some (vi 1)) ∧ T = MS I J cc ss) := by
  have q0 := hws.1
  have q1 := hws.2.1
  have q2 := hwp.1
  have q3 := hwp.2.1
  have q4 := hwi.1
  have q5 := hwi.2.1
  refine ev_n (fr' := (2, [some (vr 135), some (vi y), some (vi z)], [vi y, vr 135])) (S' := MS I J cc ss) 2 rfl ?_
  refine ev_cv rfl rfl rfl ⟨Nat.le_of_ble_eq_true rfl, Nat.le_of_ble_eq_true rfl⟩ (sp_isIcon_r X _ _ _ _ y hg hwi) ?_
  show Ev X k_X9_isOut (5, [some (vr 135), some (vi y), some (vi z)], [vi (if 0 ≤ y ∧ y ≤ g 308 - 1 then 1 else 0)]) (MS I J cc ss) _
  refine ev_beq _ rfl (by decide) (fun (g1 : ¬ (0 ≤ y ∧ y ≤ g 308 - 1)) => ?_) (fun (g1 : 0 ≤ y ∧ y ≤ g 308 - 1) => ?_)
  · show Ev X k_X9_isOut (16, [some (vr 135), some (vi y), some (vi z)], []) (MS I J cc ss) _
    refine ev_n (fr' := (21, [some (vr 135), some (vi y), some (vi z)], [vi 1])) (S' := MS I J cc ss) 2 rfl ?_
    refine ev_r rfl rfl rfl ?_
    exact ⟨rfl, rfl⟩
  · show Ev X k_X9_isOut (8, [some (vr 135), some (vi y), some (vi z)], []) (MS I J cc ss) _
    refine ev_n (fr' := (10, [some (vr 135), some (vi y), some (vi z)], [vi z, vr 135])) (S' := MS I J cc ss) 2 rfl ?_
    refine ev_cv rfl rfl rfl ⟨Nat.le_of_ble_eq_true rfl, Nat.le_of_ble_eq_true rfl⟩ (sp_isSize_r X _ _ _ _ z hg hws) ?_
    show Ev X k_X9_isOut (13, [some (vr 135), some (vi y), some (vi z)], [vi (if 0 ≤ z ∧ z ≤ g 0 - 1 then 1 else 0)]) (MS I J cc ss) _
    refine ev_bne _ rfl (by decide) (fun (g2 : 0 ≤ z ∧ z ≤ g 0 - 1) => ?_) (fun (g2 : ¬ (0 ≤ z ∧ z ≤ g 0 - 1)) => ?_)
    · show Ev X k_X9_isOut (20, [some (vr 135), some (vi y), some (vi z)], []) (MS I J cc ss) _
      refine ev_n (fr' := (21, [some (vr 135), some (vi y), some (vi z)], [vi 0])) (S' := MS I J cc ss) 1 rfl ?_
      refine ev_r rfl rfl rfl ?_
      exact absurd ⟨by omega, by omega⟩ h
    · show Ev X k_X9_isOut (16, [some (vr 135), some (vi y), some (vi z)], []) (MS I J cc ss) _
      refine ev_n (fr' := (21, [some (vr 135), some (vi y), some (vi z)], [vi 1])) (S' := MS I J cc ss) 2 rfl ?_
      refine ev_r rfl rfl rfl ?_
      exact ⟨rfl, rfl⟩
theorem sp_drawsAtW (X : AX) (I J : Nat → Nat → Int) (cc ss : Nat) {g : F1} (i k : Nat) (hg : J 136 = g) (hws : WS g) (hwp : WP g) (hwi : WI g) (hi : (i : Int) < g 308) (hk : (k : Int) < g 0) : Ev X k_X9_drawsAt (0, [some (vr 135), some (vi (i : Int)), some (vi (k : Int))], []) (MS I J cc ss) (PV cc ss none (fun I' J' => J' = J ∧ onlyW I I' ∧ I' 135 17 = g (2 * k + 1) ∧ DM I' (icF g i (g (2 * k + 1)) (g (2 * k + 2))))) := by
  have q0 := hws.1
  have q1 := hws.2.1
  have q2 := hwp.1
  have q3 := hwp.2.1
  have q4 := hwi.1
  have q5 := hwi.2.1
  have hr := hws.2.2.1 k hk
  refine ev_n (fr' := (4, [some (vr 135), some (vi (i : Int)), some (vi (k : Int))], [vi (k : Int), vr 135, vi (i : Int), vr 135])) (S' := MS I J cc ss) 4 rfl ?_
  refine ev_cv rfl rfl rfl ⟨Nat.le_of_ble_eq_true rfl, Nat.le_of_ble_eq_true rfl⟩ (sp_pixelsOf_r X _ _ _ _ k hg hws (by omega)) ?_
  show Ev X k_X9_drawsAt (7, [some (vr 135), some (vi (i : Int)), some (vi (k : Int))], [vi (g (2 * k + 1)), vi (i : Int), vr 135]) (MS I J cc ss) _
  refine ev_n (fr' := (9, [some (vr 135), some (vi (i : Int)), some (vi (k : Int))], [vi (k : Int), vr 135, vi (g (2 * k + 1)), vi (i : Int), vr 135])) (S' := MS I J cc ss) 2 rfl ?_
  refine ev_cv rfl rfl rfl ⟨Nat.le_of_ble_eq_true rfl, Nat.le_of_ble_eq_true rfl⟩ (sp_extraOf_r X _ _ _ _ k hg hws (by omega)) ?_
  show Ev X k_X9_drawsAt (12, [some (vr 135), some (vi (i : Int)), some (vi (k : Int))], [vi (g (2 * k + 2)), vi (g (2 * k + 1)), vi (i : Int), vr 135]) (MS I J cc ss) _
  refine ev_n (fr' := (14, [some (vr 135), some (vi (i : Int)), some (vi (k : Int))], [vi (-1), vi (-1), vi (g (2 * k + 2)), vi (g (2 * k + 1)), vi (i : Int), vr 135])) (S' := MS I J cc ss) 2 rfl ?_
  refine ev_cp rfl rfl rfl ⟨Nat.le_of_ble_eq_true rfl, Nat.le_of_ble_eq_true rfl⟩ (sp_draws X _ _ _ _ i (g (2 * k + 1)) (g (2 * k + 2)) (-1) (-1) (by omega) (by omega) hg hwp hwi (by omega)) (fun I1 J q2 => ?_)
  obtain ⟨rfl, rW, hW, hD⟩ := q2
  show Ev X k_X9_drawsAt (17, [some (vr 135), some (vi (i : Int)), some (vi (k : Int))], []) (MS I1 J cc ss) _
  refine ev_r rfl rfl rfl ?_
  exact ⟨_, _, rfl, rfl, rfl, rW, hW, hD⟩
theorem rb_difference_x (X : AX) (I J : Nat → Nat → Int) (cc ss : Nat) {g : F1} (y t z : Int) (hg : J 136 = g) (hws : WS g) (hwp : WP g) (hwi : WI g) (h : ¬ ((0 ≤ y ∧ y < g 308) ∧ (0 ≤ z ∧ z < g 0))) : Ev X k_X9_difference (0, [some (vr 135), some (vi y), some (vi t), some (vi z)], []) (MS I J cc ss) (fun o T => o = .inl (some (vi 0)) ∧ T = MS (up2 I 135 4 1) J cc ss) := by
  have q0 := hws.1
  have q1 := hws.2.1
  have q2 := hwp.1
  have q3 := hwp.2.1
  have q4 := hwi.1
  have q5 := hwi.2.1
  refine ev_n (fr' := (4, [some (vr 135), some (vi y), some (vi t), some (vi z)], [vi z, vi y, vr 135, vr 135])) (S' := MS I J cc ss) 4 rfl ?_
  refine ev_cv rfl rfl rfl ⟨Nat.le_of_ble_eq_true rfl, Nat.le_of_ble_eq_true rfl⟩ (sp_isOut1 X _ _ _ _ y z hg hws hwp hwi h) ?_
  show Ev X k_X9_difference (7, [some (vr 135), some (vi y), some (vi t), some (vi z)], [vi 1, vr 135]) (MS I J cc ss) _
  refine ev_n (fr' := (23, [some (vr 135), some (vi y), some (vi t), some (vi z)], [vi 1, vr 135])) (S' := MS I J cc ss) 3 rfl ?_
  refine ev_n (fr' := (26, [some (vr 135), some (vi y), some (vi t), some (vi z)], [])) (S' := MS (up2 I 135 4 1) J cc ss) 1 rfl ?_
  refine ev_n (fr' := (34, [some (vr 135), some (vi y), some (vi t), some (vi z)], [vi 0])) (S' := MS (up2 I 135 4 1) J cc ss) 4 rfl ?_
  refine ev_r rfl rfl rfl ?_
  exact ⟨rfl, rfl⟩
theorem rb_difference_y (X : AX) (I J : Nat → Nat → Int) (cc ss : Nat) {g : F1} (i k : Nat) (t : Int) (hg : J 136 = g) (hws : WS g) (hwp : WP g) (hwi : WI g) (hi : (i : Int) < g 308) (hk : (k : Int) < g 0) (h : ¬ (0 ≤ t ∧ t < g 308)) : Ev X k_X9_difference (0, [some (vr 135), some (vi (i : Int)), some (vi t), some (vi (k : Int))], []) (MS I J cc ss) (fun o T => o = .inl (some (vi 0)) ∧ T = MS (up2 I 135 4 1) J cc ss) := by
  have q0 := hws.1
  have q1 := hws.2.1
  have q2 := hwp.1
  have q3 := hwp.2.1
  have q4 := hwi.1
  have q5 := hwi.2.1
  refine ev_n (fr' := (4, [some (vr 135), some (vi (i : Int)), some (vi t), some (vi (k : Int))], [vi (k : Int), vi (i : Int), vr 135, vr 135])) (S' := MS I J cc ss) 4 rfl ?_
  refine ev_cv rfl rfl rfl ⟨Nat.le_of_ble_eq_true rfl, Nat.le_of_ble_eq_true rfl⟩ (sp_isOut0 X _ _ _ _ i k hg hws hwp hwi (by omega) (by omega)) ?_
  show Ev X k_X9_difference (7, [some (vr 135), some (vi (i : Int)), some (vi t), some (vi (k : Int))], [vi 0, vr 135]) (MS I J cc ss) _
  refine ev_n (fr' := (12, [some (vr 135), some (vi (i : Int)), some (vi t), some (vi (k : Int))], [vi t, vr 135, vr 135])) (S' := MS I J cc ss) 3 rfl ?_
  refine ev_cv rfl rfl rfl ⟨Nat.le_of_ble_eq_true rfl, Nat.le_of_ble_eq_true rfl⟩ (sp_isIcon_r X _ _ _ _ t hg hwi) ?_
  show Ev X k_X9_difference (15, [some (vr 135), some (vi (i : Int)), some (vi t), some (vi (k : Int))], [vi (if 0 ≤ t ∧ t ≤ g 308 - 1 then 1 else 0), vr 135]) (MS I J cc ss) _
  refine ev_bne _ rfl (by decide) (fun (g1 : 0 ≤ t ∧ t ≤ g 308 - 1) => False.elim ((show ¬ (0 ≤ t ∧ t ≤ g 308 - 1) from by omega) g1)) (fun (g1 : ¬ (0 ≤ t ∧ t ≤ g 308 - 1)) => ?_)
  show Ev X k_X9_difference (18, [some (vr 135), some (vi (i : Int)), some (vi t), some (vi (k : Int))], [vr 135]) (MS I J cc ss) _
  refine ev_n (fr' := (23, [some (vr 135), some (vi (i : Int)), some (vi t), some (vi (k : Int))], [vi 1, vr 135])) (S' := MS I J cc ss) 2 rfl ?_
  refine ev_n (fr' := (26, [some (vr 135), some (vi (i : Int)), some (vi t), some (vi (k : Int))], [])) (S' := MS (up2 I 135 4 1) J cc ss) 1 rfl ?_
  refine ev_n (fr' := (34, [some (vr 135), some (vi (i : Int)), some (vi t), some (vi (k : Int))], [vi 0])) (S' := MS (up2 I 135 4 1) J cc ss) 4 rfl ?_
  refine ev_r rfl rfl rfl ?_
  exact ⟨rfl, rfl⟩
theorem rb_difference (X : AX) (I J : Nat → Nat → Int) (cc ss : Nat) {g : F1} (i j k : Nat) (hg : J 136 = g) (hws : WS g) (hwp : WP g) (hwi : WI g) (hi : (i : Int) < g 308) (hj : (j : Int) < g 308) (hk : (k : Int) < g 0) : Ev X k_X9_difference (0, [some (vr 135), some (vi (i : Int)), some (vi (j : Int)), some (vi (k : Int))], []) (MS I J cc ss) (PV cc ss (some (vi (cntB (fun y x => (icF g i (g (2 * k + 1)) (g (2 * k + 2))) y x ^^ (icF g j (g (2 * k + 1)) (g (2 * k + 2))) y x)))) (fun I' J' => J' = J ∧ scrM (up2 I 135 4 0) I')) := by
  have q0 := hws.1
  have q1 := hws.2.1
  have q2 := hwp.1
  have q3 := hwp.2.1
  have q4 := hwi.1
  have q5 := hwi.2.1
  have hF := scrM.refl (up2 I 135 4 0)
  refine ev_n (fr' := (4, [some (vr 135), some (vi (i : Int)), some (vi (j : Int)), some (vi (k : Int))], [vi (k : Int), vi (i : Int), vr 135, vr 135])) (S' := MS I J cc ss) 4 rfl ?_
  refine ev_cv rfl rfl rfl ⟨Nat.le_of_ble_eq_true rfl, Nat.le_of_ble_eq_true rfl⟩ (sp_isOut0 X _ _ _ _ i k hg hws hwp hwi (by omega) (by omega)) ?_
  show Ev X k_X9_difference (7, [some (vr 135), some (vi (i : Int)), some (vi (j : Int)), some (vi (k : Int))], [vi 0, vr 135]) (MS I J cc ss) _
  refine ev_n (fr' := (12, [some (vr 135), some (vi (i : Int)), some (vi (j : Int)), some (vi (k : Int))], [vi (j : Int), vr 135, vr 135])) (S' := MS I J cc ss) 3 rfl ?_
  refine ev_cv rfl rfl rfl ⟨Nat.le_of_ble_eq_true rfl, Nat.le_of_ble_eq_true rfl⟩ (sp_isIcon_r X _ _ _ _ (j : Int) hg hwi) ?_
  show Ev X k_X9_difference (15, [some (vr 135), some (vi (i : Int)), some (vi (j : Int)), some (vi (k : Int))], [vi (if 0 ≤ (j : Int) ∧ (j : Int) ≤ g 308 - 1 then 1 else 0), vr 135]) (MS I J cc ss) _
  refine ev_bne _ rfl (by decide) (fun (g1 : 0 ≤ (j : Int) ∧ (j : Int) ≤ g 308 - 1) => ?_) (fun (g1 : ¬ (0 ≤ (j : Int) ∧ (j : Int) ≤ g 308 - 1)) => False.elim (g1 (by omega)))
  show Ev X k_X9_difference (22, [some (vr 135), some (vi (i : Int)), some (vi (j : Int)), some (vi (k : Int))], [vr 135]) (MS I J cc ss) _
  refine ev_n (fr' := (23, [some (vr 135), some (vi (i : Int)), some (vi (j : Int)), some (vi (k : Int))], [vi 0, vr 135])) (S' := MS I J cc ss) 1 rfl ?_
  refine ev_n (fr' := (26, [some (vr 135), some (vi (i : Int)), some (vi (j : Int)), some (vi (k : Int))], [])) (S' := MS (up2 I 135 4 0) J cc ss) 1 rfl ?_
  refine ev_n (fr' := (38, [some (vr 135), some (vi (i : Int)), some (vi (j : Int)), some (vi (k : Int))], [vi (k : Int), vi (i : Int), vr 135])) (S' := MS (up2 I 135 4 0) J cc ss) 6 rfl ?_
  refine ev_cp rfl rfl rfl ⟨Nat.le_of_ble_eq_true rfl, Nat.le_of_ble_eq_true rfl⟩ (sp_drawsAtW X _ _ _ _ i k hg hws hwp hwi (by omega) (by omega)) (fun I1 J q2 => ?_)
  obtain ⟨rfl, r1, hW, hD⟩ := q2
  show Ev X k_X9_difference (41, [some (vr 135), some (vi (i : Int)), some (vi (j : Int)), some (vi (k : Int))], []) (MS I1 J cc ss) _
  have hF := hF.trans r1.scr
  refine ev_n (fr' := (42, [some (vr 135), some (vi (i : Int)), some (vi (j : Int)), some (vi (k : Int))], [vr 135])) (S' := MS I1 J cc ss) 1 rfl ?_
  refine ev_cp rfl rfl rfl ⟨Nat.le_of_ble_eq_true rfl, Nat.le_of_ble_eq_true rfl⟩ (sp_setsAside X _ _ _ _ hD) (fun I3 J q4 => ?_)
  obtain ⟨rfl, rO, hE⟩ := q4
  show Ev X k_X9_difference (45, [some (vr 135), some (vi (i : Int)), some (vi (j : Int)), some (vi (k : Int))], []) (MS I3 J cc ss) _
  have hF := hF.trans rO.scr
  refine ev_n (fr' := (48, [some (vr 135), some (vi (i : Int)), some (vi (j : Int)), some (vi (k : Int))], [vi (k : Int), vi (j : Int), vr 135])) (S' := MS I3 J cc ss) 3 rfl ?_
  refine ev_cp rfl rfl rfl ⟨Nat.le_of_ble_eq_true rfl, Nat.le_of_ble_eq_true rfl⟩ (sp_drawsAtW X _ _ _ _ j k hg hws hwp hwi (by omega) (by omega)) (fun I5 J q6 => ?_)
  obtain ⟨rfl, r2, hW, hD⟩ := q6
  show Ev X k_X9_difference (51, [some (vr 135), some (vi (i : Int)), some (vi (j : Int)), some (vi (k : Int))], []) (MS I5 J cc ss) _
  have hF := hF.trans r2.scr
  have hE : DO I5 (icF g i (g (2 * k + 1)) (g (2 * k + 2))) := fun y x hy hx => by rw [r2.1 141 (by decide) (by decide)]; exact hE y x hy hx
  refine ev_n (fr' := (52, [some (vr 135), some (vi (i : Int)), some (vi (j : Int)), some (vi (k : Int))], [vr 135])) (S' := MS I5 J cc ss) 1 rfl ?_
  refine ev_cv rfl rfl rfl ⟨Nat.le_of_ble_eq_true rfl, Nat.le_of_ble_eq_true rfl⟩ (sp_differs X _ _ _ _ hD hE) ?_
  show Ev X k_X9_difference (55, [some (vr 135), some (vi (i : Int)), some (vi (j : Int)), some (vi (k : Int))], [vi (cntB (fun y x => (icF g j (g (2 * k + 1)) (g (2 * k + 2))) y x ^^ (icF g i (g (2 * k + 1)) (g (2 * k + 2))) y x))]) (MS I5 J cc ss) _
  refine ev_r rfl rfl rfl ?_
  exact ⟨_, _, rfl, congrArg (fun z => Sum.inl (some (vi z))) (congrArg cntB (funext (fun y => funext (fun x => Bool.xor_comm _ _)))), rfl, hF⟩
