/-! PUBLIC QUESTIONS, reference: measures (printed by gen/g79.py) -/
theorem rb_measure_x (X : AX) (I J : Nat → Nat → Int) (cc ss : Nat) {g : F1} (y z w : Int) (hg : J 136 = g) (hws : WS g) (hwp : WP g) (hwi : WI g) (h : ¬ ((0 ≤ y ∧ y < g 308) ∧ (0 ≤ z ∧ z < g 0))) : Ev X k_X9_measure (0, [some (vr 135), some (vi y), some (vi z), some (vi w)], []) (MS I J cc ss) (fun o T => o = .inl (some (vi 0)) ∧ T = MS (up2 I 135 4 1) J cc ss) := by
  have q0 := hws.1
  have q1 := hws.2.1
  have q2 := hwp.1
  have q3 := hwp.2.1
  have q4 := hwi.1
  have q5 := hwi.2.1
  refine ev_n (fr' := (4, [some (vr 135), some (vi y), some (vi z), some (vi w)], [vi z, vi y, vr 135, vr 135])) (S' := MS I J cc ss) 4 rfl ?_
  refine ev_cv rfl rfl rfl ⟨Nat.le_of_ble_eq_true rfl, Nat.le_of_ble_eq_true rfl⟩ (sp_isOut1 X _ _ _ _ y z hg hws hwp hwi h) ?_
  show Ev X k_X9_measure (7, [some (vr 135), some (vi y), some (vi z), some (vi w)], [vi 1, vr 135]) (MS I J cc ss) _
  refine ev_n (fr' := (31, [some (vr 135), some (vi y), some (vi z), some (vi w)], [vi 1, vr 135])) (S' := MS I J cc ss) 3 rfl ?_
  refine ev_n (fr' := (34, [some (vr 135), some (vi y), some (vi z), some (vi w)], [])) (S' := MS (up2 I 135 4 1) J cc ss) 1 rfl ?_
  refine ev_n (fr' := (42, [some (vr 135), some (vi y), some (vi z), some (vi w)], [vi 0])) (S' := MS (up2 I 135 4 1) J cc ss) 4 rfl ?_
  refine ev_r rfl rfl rfl ?_
  exact ⟨rfl, rfl⟩
theorem rb_measure_y (X : AX) (I J : Nat → Nat → Int) (cc ss : Nat) {g : F1} (i k : Nat) (w : Int) (hg : J 136 = g) (hws : WS g) (hwp : WP g) (hwi : WI g) (hi : (i : Int) < g 308) (hk : (k : Int) < g 0) (h : ¬ (0 ≤ w ∧ w ≤ 7)) : Ev X k_X9_measure (0, [some (vr 135), some (vi (i : Int)), some (vi (k : Int)), some (vi w)], []) (MS I J cc ss) (fun o T => o = .inl (some (vi 0)) ∧ T = MS (up2 I 135 4 2) J cc ss) := by
  have q0 := hws.1
  have q1 := hws.2.1
  have q2 := hwp.1
  have q3 := hwp.2.1
  have q4 := hwi.1
  have q5 := hwi.2.1
  refine ev_n (fr' := (4, [some (vr 135), some (vi (i : Int)), some (vi (k : Int)), some (vi w)], [vi (k : Int), vi (i : Int), vr 135, vr 135])) (S' := MS I J cc ss) 4 rfl ?_
  refine ev_cv rfl rfl rfl ⟨Nat.le_of_ble_eq_true rfl, Nat.le_of_ble_eq_true rfl⟩ (sp_isOut0 X _ _ _ _ i k hg hws hwp hwi (by omega) (by omega)) ?_
  show Ev X k_X9_measure (7, [some (vr 135), some (vi (i : Int)), some (vi (k : Int)), some (vi w)], [vi 0, vr 135]) (MS I J cc ss) _
  refine ev_n (fr' := (20, [some (vr 135), some (vi (i : Int)), some (vi (k : Int)), some (vi w)], [vl 7, vl 0, vl w, vr 135])) (S' := MS I J cc ss) 5 rfl ?_
  refine ev_cv rfl rfl rfl ⟨Nat.le_of_ble_eq_true rfl, Nat.le_of_ble_eq_true rfl⟩ (sp_isIn X _ w 0 7 ) ?_
  show Ev X k_X9_measure (23, [some (vr 135), some (vi (i : Int)), some (vi (k : Int)), some (vi w)], [vi (if 0 ≤ w ∧ w ≤ 7 then 1 else 0), vr 135]) (MS I J cc ss) _
  refine ev_beq _ rfl (by decide) (fun (g1 : ¬ (0 ≤ w ∧ w ≤ 7)) => ?_) (fun (g1 : 0 ≤ w ∧ w ≤ 7) => False.elim ((show ¬ (0 ≤ w ∧ w ≤ 7) from by omega) g1))
  show Ev X k_X9_measure (30, [some (vr 135), some (vi (i : Int)), some (vi (k : Int)), some (vi w)], [vr 135]) (MS I J cc ss) _
  refine ev_n (fr' := (31, [some (vr 135), some (vi (i : Int)), some (vi (k : Int)), some (vi w)], [vi 2, vr 135])) (S' := MS I J cc ss) 1 rfl ?_
  refine ev_n (fr' := (34, [some (vr 135), some (vi (i : Int)), some (vi (k : Int)), some (vi w)], [])) (S' := MS (up2 I 135 4 2) J cc ss) 1 rfl ?_
  refine ev_n (fr' := (42, [some (vr 135), some (vi (i : Int)), some (vi (k : Int)), some (vi w)], [vi 0])) (S' := MS (up2 I 135 4 2) J cc ss) 4 rfl ?_
  refine ev_r rfl rfl rfl ?_
  exact ⟨rfl, rfl⟩
theorem rb_measure_0 (X : AX) (I J : Nat → Nat → Int) (cc ss : Nat) {g : F1} (i k : Nat) (hg : J 136 = g) (hws : WS g) (hwp : WP g) (hwi : WI g) (hi : (i : Int) < g 308) (hk : (k : Int) < g 0) : Ev X k_X9_measure (0, [some (vr 135), some (vi (i : Int)), some (vi (k : Int)), some (vi 0)], []) (MS I J cc ss) (PV cc ss (some (vi (cntB (icF g i (g (2 * k + 1)) (g (2 * k + 2)))))) (fun I' J' => J' = J ∧ scrM (up2 I 135 4 0) I')) := by
  have q0 := hws.1
  have q1 := hws.2.1
  have q2 := hwp.1
  have q3 := hwp.2.1
  have q4 := hwi.1
  have q5 := hwi.2.1
  have hr := hws.2.2.1 k hk
  have hF := scrM.refl (up2 I 135 4 0)
  refine ev_n (fr' := (4, [some (vr 135), some (vi (i : Int)), some (vi (k : Int)), some (vi 0)], [vi (k : Int), vi (i : Int), vr 135, vr 135])) (S' := MS I J cc ss) 4 rfl ?_
  refine ev_cv rfl rfl rfl ⟨Nat.le_of_ble_eq_true rfl, Nat.le_of_ble_eq_true rfl⟩ (sp_isOut0 X _ _ _ _ i k hg hws hwp hwi (by omega) (by omega)) ?_
  show Ev X k_X9_measure (7, [some (vr 135), some (vi (i : Int)), some (vi (k : Int)), some (vi 0)], [vi 0, vr 135]) (MS I J cc ss) _
  refine ev_n (fr' := (20, [some (vr 135), some (vi (i : Int)), some (vi (k : Int)), some (vi 0)], [vl 7, vl 0, vl 0, vr 135])) (S' := MS I J cc ss) 5 rfl ?_
  refine ev_cv rfl rfl rfl ⟨Nat.le_of_ble_eq_true rfl, Nat.le_of_ble_eq_true rfl⟩ (sp_isIn X _ 0 0 7 ) ?_
  show Ev X k_X9_measure (23, [some (vr 135), some (vi (i : Int)), some (vi (k : Int)), some (vi 0)], [vi (if 0 ≤ 0 ∧ 0 ≤ 7 then 1 else 0), vr 135]) (MS I J cc ss) _
  refine ev_beq _ rfl (by decide) (fun (g1 : ¬ (0 ≤ 0 ∧ 0 ≤ 7)) => False.elim (g1 (by omega))) (fun (g1 : 0 ≤ 0 ∧ 0 ≤ 7) => ?_)
  show Ev X k_X9_measure (26, [some (vr 135), some (vi (i : Int)), some (vi (k : Int)), some (vi 0)], [vr 135]) (MS I J cc ss) _
  refine ev_n (fr' := (31, [some (vr 135), some (vi (i : Int)), some (vi (k : Int)), some (vi 0)], [vi 0, vr 135])) (S' := MS I J cc ss) 2 rfl ?_
  refine ev_n (fr' := (34, [some (vr 135), some (vi (i : Int)), some (vi (k : Int)), some (vi 0)], [])) (S' := MS (up2 I 135 4 0) J cc ss) 1 rfl ?_
  refine ev_n (fr' := (46, [some (vr 135), some (vi (i : Int)), some (vi (k : Int)), some (vi 0)], [vi (k : Int), vi (i : Int), vr 135])) (S' := MS (up2 I 135 4 0) J cc ss) 6 rfl ?_
  refine ev_cp rfl rfl rfl ⟨Nat.le_of_ble_eq_true rfl, Nat.le_of_ble_eq_true rfl⟩ (sp_drawsAtW X _ _ _ _ i k hg hws hwp hwi (by omega) (by omega)) (fun I1 J q2 => ?_)
  obtain ⟨rfl, r1, hW, hD⟩ := q2
  show Ev X k_X9_measure (49, [some (vr 135), some (vi (i : Int)), some (vi (k : Int)), some (vi 0)], []) (MS I1 J cc ss) _
  have hF := hF.trans r1.scr
  refine ev_n (fr' := (81, [some (vr 135), some (vi (i : Int)), some (vi (k : Int)), some (vi 0)], [vr 135])) (S' := MS I1 J cc ss) 3 rfl ?_
  refine ev_cv rfl rfl rfl ⟨Nat.le_of_ble_eq_true rfl, Nat.le_of_ble_eq_true rfl⟩ (sp_inkNow X _ _ _ _ hD) ?_
  show Ev X k_X9_measure (84, [some (vr 135), some (vi (i : Int)), some (vi (k : Int)), some (vi 0)], [vi (cntB (icF g i (g (2 * k + 1)) (g (2 * k + 2))))]) (MS I1 J cc ss) _
  refine ev_r rfl rfl rfl ?_
  exact ⟨_, _, rfl, rfl, rfl, hF⟩
theorem rb_measure_1 (X : AX) (I J : Nat → Nat → Int) (cc ss : Nat) {g : F1} (i k : Nat) (hg : J 136 = g) (hws : WS g) (hwp : WP g) (hwi : WI g) (hi : (i : Int) < g 308) (hk : (k : Int) < g 0) : Ev X k_X9_measure (0, [some (vr 135), some (vi (i : Int)), some (vi (k : Int)), some (vi 1)], []) (MS I J cc ss) (PV cc ss (some (vi (wF (icF g i (g (2 * k + 1)) (g (2 * k + 2))) (g (2 * k + 1))))) (fun I' J' => J' = J ∧ scrM (up2 I 135 4 0) I')) := by
  have q0 := hws.1
  have q1 := hws.2.1
  have q2 := hwp.1
  have q3 := hwp.2.1
  have q4 := hwi.1
  have q5 := hwi.2.1
  have hr := hws.2.2.1 k hk
  have hF := scrM.refl (up2 I 135 4 0)
  have m1 := mul_rng (u := g (2 * k + 1)) (P := g (2 * k + 1)) (a := 32) (by omega) (by omega) (by omega) (by omega) (by omega)
  have m2 : 4 * 4 ≤ g (2 * k + 1) * g (2 * k + 1) := Int.mul_le_mul hr.1 hr.1 (by omega) (by omega)
  have h2 := cntB_rng (icF g i (g (2 * k + 1)) (g (2 * k + 2)))
  refine ev_n (fr' := (4, [some (vr 135), some (vi (i : Int)), some (vi (k : Int)), some (vi 1)], [vi (k : Int), vi (i : Int), vr 135, vr 135])) (S' := MS I J cc ss) 4 rfl ?_
  refine ev_cv rfl rfl rfl ⟨Nat.le_of_ble_eq_true rfl, Nat.le_of_ble_eq_true rfl⟩ (sp_isOut0 X _ _ _ _ i k hg hws hwp hwi (by omega) (by omega)) ?_
  show Ev X k_X9_measure (7, [some (vr 135), some (vi (i : Int)), some (vi (k : Int)), some (vi 1)], [vi 0, vr 135]) (MS I J cc ss) _
  refine ev_n (fr' := (20, [some (vr 135), some (vi (i : Int)), some (vi (k : Int)), some (vi 1)], [vl 7, vl 0, vl 1, vr 135])) (S' := MS I J cc ss) 5 rfl ?_
  refine ev_cv rfl rfl rfl ⟨Nat.le_of_ble_eq_true rfl, Nat.le_of_ble_eq_true rfl⟩ (sp_isIn X _ 1 0 7 ) ?_
  show Ev X k_X9_measure (23, [some (vr 135), some (vi (i : Int)), some (vi (k : Int)), some (vi 1)], [vi (if 0 ≤ 1 ∧ 1 ≤ 7 then 1 else 0), vr 135]) (MS I J cc ss) _
  refine ev_beq _ rfl (by decide) (fun (g1 : ¬ (0 ≤ 1 ∧ 1 ≤ 7)) => False.elim (g1 (by omega))) (fun (g1 : 0 ≤ 1 ∧ 1 ≤ 7) => ?_)
  show Ev X k_X9_measure (26, [some (vr 135), some (vi (i : Int)), some (vi (k : Int)), some (vi 1)], [vr 135]) (MS I J cc ss) _
  refine ev_n (fr' := (31, [some (vr 135), some (vi (i : Int)), some (vi (k : Int)), some (vi 1)], [vi 0, vr 135])) (S' := MS I J cc ss) 2 rfl ?_
  refine ev_n (fr' := (34, [some (vr 135), some (vi (i : Int)), some (vi (k : Int)), some (vi 1)], [])) (S' := MS (up2 I 135 4 0) J cc ss) 1 rfl ?_
  refine ev_n (fr' := (46, [some (vr 135), some (vi (i : Int)), some (vi (k : Int)), some (vi 1)], [vi (k : Int), vi (i : Int), vr 135])) (S' := MS (up2 I 135 4 0) J cc ss) 6 rfl ?_
  refine ev_cp rfl rfl rfl ⟨Nat.le_of_ble_eq_true rfl, Nat.le_of_ble_eq_true rfl⟩ (sp_drawsAtW X _ _ _ _ i k hg hws hwp hwi (by omega) (by omega)) (fun I1 J q2 => ?_)
  obtain ⟨rfl, r1, hW, hD⟩ := q2
  show Ev X k_X9_measure (49, [some (vr 135), some (vi (i : Int)), some (vi (k : Int)), some (vi 1)], []) (MS I1 J cc ss) _
  have hF := hF.trans r1.scr
  refine ev_n (fr' := (89, [some (vr 135), some (vi (i : Int)), some (vi (k : Int)), some (vi 1)], [vr 135, vi 1000])) (S' := MS I1 J cc ss) 4 rfl ?_
  refine ev_cv rfl rfl rfl ⟨Nat.le_of_ble_eq_true rfl, Nat.le_of_ble_eq_true rfl⟩ (sp_inkNow X _ _ _ _ hD) ?_
  show Ev X k_X9_measure (92, [some (vr 135), some (vi (i : Int)), some (vi (k : Int)), some (vi 1)], [vi (cntB (icF g i (g (2 * k + 1)) (g (2 * k + 2)))), vi 1000]) (MS I1 J cc ss) _
  refine ev_mul (z := 1000 * (cntB (icF g i (g (2 * k + 1)) (g (2 * k + 2))))) rfl (by omega) (by omega) (by omega) ?_
  show Ev X k_X9_measure (93, [some (vr 135), some (vi (i : Int)), some (vi (k : Int)), some (vi 1)], [vi (1000 * (cntB (icF g i (g (2 * k + 1)) (g (2 * k + 2)))))]) (MS I1 J cc ss) _
  refine ev_n (fr' := (97, [some (vr 135), some (vi (i : Int)), some (vi (k : Int)), some (vi 1)], [vi (I1 135 17), vi (1000 * (cntB (icF g i (g (2 * k + 1)) (g (2 * k + 2)))))])) (S' := MS I1 J cc ss) 2 rfl ?_
  refine ev_eqi (hW) ?_
  show Ev X k_X9_measure (97, [some (vr 135), some (vi (i : Int)), some (vi (k : Int)), some (vi 1)], [vi (g (2 * k + 1)), vi (1000 * (cntB (icF g i (g (2 * k + 1)) (g (2 * k + 2)))))]) (MS I1 J cc ss) _
  refine ev_n (fr' := (101, [some (vr 135), some (vi (i : Int)), some (vi (k : Int)), some (vi 1)], [vi (I1 135 17), vi (g (2 * k + 1)), vi (1000 * (cntB (icF g i (g (2 * k + 1)) (g (2 * k + 2)))))])) (S' := MS I1 J cc ss) 2 rfl ?_
  refine ev_eqi (hW) ?_
  show Ev X k_X9_measure (101, [some (vr 135), some (vi (i : Int)), some (vi (k : Int)), some (vi 1)], [vi (g (2 * k + 1)), vi (g (2 * k + 1)), vi (1000 * (cntB (icF g i (g (2 * k + 1)) (g (2 * k + 2)))))]) (MS I1 J cc ss) _
  refine ev_mul (z := ((g (2 * k + 1)) * (g (2 * k + 1)))) rfl (by omega) (by omega) (by omega) ?_
  show Ev X k_X9_measure (102, [some (vr 135), some (vi (i : Int)), some (vi (k : Int)), some (vi 1)], [vi ((g (2 * k + 1)) * (g (2 * k + 1))), vi (1000 * (cntB (icF g i (g (2 * k + 1)) (g (2 * k + 2)))))]) (MS I1 J cc ss) _
  refine ev_div (z := (1000 * (cntB (icF g i (g (2 * k + 1)) (g (2 * k + 2))))) / ((g (2 * k + 1)) * (g (2 * k + 1)))) rfl (by omega) (by omega) rfl ?_
  show Ev X k_X9_measure (103, [some (vr 135), some (vi (i : Int)), some (vi (k : Int)), some (vi 1)], [vi ((1000 * (cntB (icF g i (g (2 * k + 1)) (g (2 * k + 2))))) / ((g (2 * k + 1)) * (g (2 * k + 1))))]) (MS I1 J cc ss) _
  refine ev_r rfl rfl rfl ?_
  exact ⟨_, _, rfl, rfl, rfl, hF⟩
theorem rb_measure_4 (X : AX) (I J : Nat → Nat → Int) (cc ss : Nat) {g : F1} (i k : Nat) (hg : J 136 = g) (hws : WS g) (hwp : WP g) (hwi : WI g) (hi : (i : Int) < g 308) (hk : (k : Int) < g 0) : Ev X k_X9_measure (0, [some (vr 135), some (vi (i : Int)), some (vi (k : Int)), some (vi 4)], []) (MS I J cc ss) (PV cc ss (some (vi (firstF (colB (icF g i (g (2 * k + 1)) (g (2 * k + 2))))))) (fun I' J' => J' = J ∧ scrM (up2 I 135 4 0) I')) := by
  have q0 := hws.1
  have q1 := hws.2.1
  have q2 := hwp.1
  have q3 := hwp.2.1
  have q4 := hwi.1
  have q5 := hwi.2.1
  have hr := hws.2.2.1 k hk
  have hF := scrM.refl (up2 I 135 4 0)
  refine ev_n (fr' := (4, [some (vr 135), some (vi (i : Int)), some (vi (k : Int)), some (vi 4)], [vi (k : Int), vi (i : Int), vr 135, vr 135])) (S' := MS I J cc ss) 4 rfl ?_
  refine ev_cv rfl rfl rfl ⟨Nat.le_of_ble_eq_true rfl, Nat.le_of_ble_eq_true rfl⟩ (sp_isOut0 X _ _ _ _ i k hg hws hwp hwi (by omega) (by omega)) ?_
  show Ev X k_X9_measure (7, [some (vr 135), some (vi (i : Int)), some (vi (k : Int)), some (vi 4)], [vi 0, vr 135]) (MS I J cc ss) _
  refine ev_n (fr' := (20, [some (vr 135), some (vi (i : Int)), some (vi (k : Int)), some (vi 4)], [vl 7, vl 0, vl 4, vr 135])) (S' := MS I J cc ss) 5 rfl ?_
  refine ev_cv rfl rfl rfl ⟨Nat.le_of_ble_eq_true rfl, Nat.le_of_ble_eq_true rfl⟩ (sp_isIn X _ 4 0 7 ) ?_
  show Ev X k_X9_measure (23, [some (vr 135), some (vi (i : Int)), some (vi (k : Int)), some (vi 4)], [vi (if 0 ≤ 4 ∧ 4 ≤ 7 then 1 else 0), vr 135]) (MS I J cc ss) _
  refine ev_beq _ rfl (by decide) (fun (g1 : ¬ (0 ≤ 4 ∧ 4 ≤ 7)) => False.elim (g1 (by omega))) (fun (g1 : 0 ≤ 4 ∧ 4 ≤ 7) => ?_)
  show Ev X k_X9_measure (26, [some (vr 135), some (vi (i : Int)), some (vi (k : Int)), some (vi 4)], [vr 135]) (MS I J cc ss) _
  refine ev_n (fr' := (31, [some (vr 135), some (vi (i : Int)), some (vi (k : Int)), some (vi 4)], [vi 0, vr 135])) (S' := MS I J cc ss) 2 rfl ?_
  refine ev_n (fr' := (34, [some (vr 135), some (vi (i : Int)), some (vi (k : Int)), some (vi 4)], [])) (S' := MS (up2 I 135 4 0) J cc ss) 1 rfl ?_
  refine ev_n (fr' := (46, [some (vr 135), some (vi (i : Int)), some (vi (k : Int)), some (vi 4)], [vi (k : Int), vi (i : Int), vr 135])) (S' := MS (up2 I 135 4 0) J cc ss) 6 rfl ?_
  refine ev_cp rfl rfl rfl ⟨Nat.le_of_ble_eq_true rfl, Nat.le_of_ble_eq_true rfl⟩ (sp_drawsAtW X _ _ _ _ i k hg hws hwp hwi (by omega) (by omega)) (fun I1 J q2 => ?_)
  obtain ⟨rfl, r1, hW, hD⟩ := q2
  show Ev X k_X9_measure (49, [some (vr 135), some (vi (i : Int)), some (vi (k : Int)), some (vi 4)], []) (MS I1 J cc ss) _
  have hF := hF.trans r1.scr
  refine ev_n (fr' := (120, [some (vr 135), some (vi (i : Int)), some (vi (k : Int)), some (vi 4)], [vi (opI fRem 4 2), vr 135])) (S' := MS I1 J cc ss) 6 rfl ?_
  refine ev_eqi (show opI fRem 4 2 = 0 by decide) ?_
  show Ev X k_X9_measure (120, [some (vr 135), some (vi (i : Int)), some (vi (k : Int)), some (vi 4)], [vi 0, vr 135]) (MS I1 J cc ss) _
  refine ev_n (fr' := (139, [some (vr 135), some (vi (i : Int)), some (vi (k : Int)), some (vi 4)], [vi 0, vi 0, vr 135])) (S' := MS I1 J cc ss) 7 rfl ?_
  refine ev_cv rfl rfl rfl ⟨Nat.le_of_ble_eq_true rfl, Nat.le_of_ble_eq_true rfl⟩ (sp_edge_00 X _ _ _ _ hD) ?_
  show Ev X k_X9_measure (142, [some (vr 135), some (vi (i : Int)), some (vi (k : Int)), some (vi 4)], [vi (firstF (colB (icF g i (g (2 * k + 1)) (g (2 * k + 2)))))]) (MS I1 J cc ss) _
  refine ev_r rfl rfl rfl ?_
  exact ⟨_, _, rfl, rfl, rfl, hF⟩
theorem rb_measure_5 (X : AX) (I J : Nat → Nat → Int) (cc ss : Nat) {g : F1} (i k : Nat) (hg : J 136 = g) (hws : WS g) (hwp : WP g) (hwi : WI g) (hi : (i : Int) < g 308) (hk : (k : Int) < g 0) : Ev X k_X9_measure (0, [some (vr 135), some (vi (i : Int)), some (vi (k : Int)), some (vi 5)], []) (MS I J cc ss) (PV cc ss (some (vi (firstF (rowB (icF g i (g (2 * k + 1)) (g (2 * k + 2))))))) (fun I' J' => J' = J ∧ scrM (up2 I 135 4 0) I')) := by
  have q0 := hws.1
  have q1 := hws.2.1
  have q2 := hwp.1
  have q3 := hwp.2.1
  have q4 := hwi.1
  have q5 := hwi.2.1
  have hr := hws.2.2.1 k hk
  have hF := scrM.refl (up2 I 135 4 0)
  refine ev_n (fr' := (4, [some (vr 135), some (vi (i : Int)), some (vi (k : Int)), some (vi 5)], [vi (k : Int), vi (i : Int), vr 135, vr 135])) (S' := MS I J cc ss) 4 rfl ?_
  refine ev_cv rfl rfl rfl ⟨Nat.le_of_ble_eq_true rfl, Nat.le_of_ble_eq_true rfl⟩ (sp_isOut0 X _ _ _ _ i k hg hws hwp hwi (by omega) (by omega)) ?_
  show Ev X k_X9_measure (7, [some (vr 135), some (vi (i : Int)), some (vi (k : Int)), some (vi 5)], [vi 0, vr 135]) (MS I J cc ss) _
  refine ev_n (fr' := (20, [some (vr 135), some (vi (i : Int)), some (vi (k : Int)), some (vi 5)], [vl 7, vl 0, vl 5, vr 135])) (S' := MS I J cc ss) 5 rfl ?_
  refine ev_cv rfl rfl rfl ⟨Nat.le_of_ble_eq_true rfl, Nat.le_of_ble_eq_true rfl⟩ (sp_isIn X _ 5 0 7 ) ?_
  show Ev X k_X9_measure (23, [some (vr 135), some (vi (i : Int)), some (vi (k : Int)), some (vi 5)], [vi (if 0 ≤ 5 ∧ 5 ≤ 7 then 1 else 0), vr 135]) (MS I J cc ss) _
  refine ev_beq _ rfl (by decide) (fun (g1 : ¬ (0 ≤ 5 ∧ 5 ≤ 7)) => False.elim (g1 (by omega))) (fun (g1 : 0 ≤ 5 ∧ 5 ≤ 7) => ?_)
  show Ev X k_X9_measure (26, [some (vr 135), some (vi (i : Int)), some (vi (k : Int)), some (vi 5)], [vr 135]) (MS I J cc ss) _
  refine ev_n (fr' := (31, [some (vr 135), some (vi (i : Int)), some (vi (k : Int)), some (vi 5)], [vi 0, vr 135])) (S' := MS I J cc ss) 2 rfl ?_
  refine ev_n (fr' := (34, [some (vr 135), some (vi (i : Int)), some (vi (k : Int)), some (vi 5)], [])) (S' := MS (up2 I 135 4 0) J cc ss) 1 rfl ?_
  refine ev_n (fr' := (46, [some (vr 135), some (vi (i : Int)), some (vi (k : Int)), some (vi 5)], [vi (k : Int), vi (i : Int), vr 135])) (S' := MS (up2 I 135 4 0) J cc ss) 6 rfl ?_
  refine ev_cp rfl rfl rfl ⟨Nat.le_of_ble_eq_true rfl, Nat.le_of_ble_eq_true rfl⟩ (sp_drawsAtW X _ _ _ _ i k hg hws hwp hwi (by omega) (by omega)) (fun I1 J q2 => ?_)
  obtain ⟨rfl, r1, hW, hD⟩ := q2
  show Ev X k_X9_measure (49, [some (vr 135), some (vi (i : Int)), some (vi (k : Int)), some (vi 5)], []) (MS I1 J cc ss) _
  have hF := hF.trans r1.scr
  refine ev_n (fr' := (120, [some (vr 135), some (vi (i : Int)), some (vi (k : Int)), some (vi 5)], [vi (opI fRem 5 2), vr 135])) (S' := MS I1 J cc ss) 6 rfl ?_
  refine ev_eqi (show opI fRem 5 2 = 1 by decide) ?_
  show Ev X k_X9_measure (120, [some (vr 135), some (vi (i : Int)), some (vi (k : Int)), some (vi 5)], [vi 1, vr 135]) (MS I1 J cc ss) _
  refine ev_n (fr' := (139, [some (vr 135), some (vi (i : Int)), some (vi (k : Int)), some (vi 5)], [vi 0, vi 1, vr 135])) (S' := MS I1 J cc ss) 8 rfl ?_
  refine ev_cv rfl rfl rfl ⟨Nat.le_of_ble_eq_true rfl, Nat.le_of_ble_eq_true rfl⟩ (sp_edge_10 X _ _ _ _ hD) ?_
  show Ev X k_X9_measure (142, [some (vr 135), some (vi (i : Int)), some (vi (k : Int)), some (vi 5)], [vi (firstF (rowB (icF g i (g (2 * k + 1)) (g (2 * k + 2)))))]) (MS I1 J cc ss) _
  refine ev_r rfl rfl rfl ?_
  exact ⟨_, _, rfl, rfl, rfl, hF⟩
theorem rb_measure_6 (X : AX) (I J : Nat → Nat → Int) (cc ss : Nat) {g : F1} (i k : Nat) (hg : J 136 = g) (hws : WS g) (hwp : WP g) (hwi : WI g) (hi : (i : Int) < g 308) (hk : (k : Int) < g 0) : Ev X k_X9_measure (0, [some (vr 135), some (vi (i : Int)), some (vi (k : Int)), some (vi 6)], []) (MS I J cc ss) (PV cc ss (some (vi (lastF (colB (icF g i (g (2 * k + 1)) (g (2 * k + 2))))))) (fun I' J' => J' = J ∧ scrM (up2 I 135 4 0) I')) := by
  have q0 := hws.1
  have q1 := hws.2.1
  have q2 := hwp.1
  have q3 := hwp.2.1
  have q4 := hwi.1
  have q5 := hwi.2.1
  have hr := hws.2.2.1 k hk
  have hF := scrM.refl (up2 I 135 4 0)
  refine ev_n (fr' := (4, [some (vr 135), some (vi (i : Int)), some (vi (k : Int)), some (vi 6)], [vi (k : Int), vi (i : Int), vr 135, vr 135])) (S' := MS I J cc ss) 4 rfl ?_
  refine ev_cv rfl rfl rfl ⟨Nat.le_of_ble_eq_true rfl, Nat.le_of_ble_eq_true rfl⟩ (sp_isOut0 X _ _ _ _ i k hg hws hwp hwi (by omega) (by omega)) ?_
  show Ev X k_X9_measure (7, [some (vr 135), some (vi (i : Int)), some (vi (k : Int)), some (vi 6)], [vi 0, vr 135]) (MS I J cc ss) _
  refine ev_n (fr' := (20, [some (vr 135), some (vi (i : Int)), some (vi (k : Int)), some (vi 6)], [vl 7, vl 0, vl 6, vr 135])) (S' := MS I J cc ss) 5 rfl ?_
  refine ev_cv rfl rfl rfl ⟨Nat.le_of_ble_eq_true rfl, Nat.le_of_ble_eq_true rfl⟩ (sp_isIn X _ 6 0 7 ) ?_
  show Ev X k_X9_measure (23, [some (vr 135), some (vi (i : Int)), some (vi (k : Int)), some (vi 6)], [vi (if 0 ≤ 6 ∧ 6 ≤ 7 then 1 else 0), vr 135]) (MS I J cc ss) _
  refine ev_beq _ rfl (by decide) (fun (g1 : ¬ (0 ≤ 6 ∧ 6 ≤ 7)) => False.elim (g1 (by omega))) (fun (g1 : 0 ≤ 6 ∧ 6 ≤ 7) => ?_)
  show Ev X k_X9_measure (26, [some (vr 135), some (vi (i : Int)), some (vi (k : Int)), some (vi 6)], [vr 135]) (MS I J cc ss) _
  refine ev_n (fr' := (31, [some (vr 135), some (vi (i : Int)), some (vi (k : Int)), some (vi 6)], [vi 0, vr 135])) (S' := MS I J cc ss) 2 rfl ?_
  refine ev_n (fr' := (34, [some (vr 135), some (vi (i : Int)), some (vi (k : Int)), some (vi 6)], [])) (S' := MS (up2 I 135 4 0) J cc ss) 1 rfl ?_
  refine ev_n (fr' := (46, [some (vr 135), some (vi (i : Int)), some (vi (k : Int)), some (vi 6)], [vi (k : Int), vi (i : Int), vr 135])) (S' := MS (up2 I 135 4 0) J cc ss) 6 rfl ?_
  refine ev_cp rfl rfl rfl ⟨Nat.le_of_ble_eq_true rfl, Nat.le_of_ble_eq_true rfl⟩ (sp_drawsAtW X _ _ _ _ i k hg hws hwp hwi (by omega) (by omega)) (fun I1 J q2 => ?_)
  obtain ⟨rfl, r1, hW, hD⟩ := q2
  show Ev X k_X9_measure (49, [some (vr 135), some (vi (i : Int)), some (vi (k : Int)), some (vi 6)], []) (MS I1 J cc ss) _
  have hF := hF.trans r1.scr
  refine ev_n (fr' := (120, [some (vr 135), some (vi (i : Int)), some (vi (k : Int)), some (vi 6)], [vi (opI fRem 6 2), vr 135])) (S' := MS I1 J cc ss) 6 rfl ?_
  refine ev_eqi (show opI fRem 6 2 = 0 by decide) ?_
  show Ev X k_X9_measure (120, [some (vr 135), some (vi (i : Int)), some (vi (k : Int)), some (vi 6)], [vi 0, vr 135]) (MS I1 J cc ss) _
  refine ev_n (fr' := (139, [some (vr 135), some (vi (i : Int)), some (vi (k : Int)), some (vi 6)], [vi 1, vi 0, vr 135])) (S' := MS I1 J cc ss) 8 rfl ?_
  refine ev_cv rfl rfl rfl ⟨Nat.le_of_ble_eq_true rfl, Nat.le_of_ble_eq_true rfl⟩ (sp_edge_01 X _ _ _ _ hD) ?_
  show Ev X k_X9_measure (142, [some (vr 135), some (vi (i : Int)), some (vi (k : Int)), some (vi 6)], [vi (lastF (colB (icF g i (g (2 * k + 1)) (g (2 * k + 2)))))]) (MS I1 J cc ss) _
  refine ev_r rfl rfl rfl ?_
  exact ⟨_, _, rfl, rfl, rfl, hF⟩
theorem rb_measure_7 (X : AX) (I J : Nat → Nat → Int) (cc ss : Nat) {g : F1} (i k : Nat) (hg : J 136 = g) (hws : WS g) (hwp : WP g) (hwi : WI g) (hi : (i : Int) < g 308) (hk : (k : Int) < g 0) : Ev X k_X9_measure (0, [some (vr 135), some (vi (i : Int)), some (vi (k : Int)), some (vi 7)], []) (MS I J cc ss) (PV cc ss (some (vi (lastF (rowB (icF g i (g (2 * k + 1)) (g (2 * k + 2))))))) (fun I' J' => J' = J ∧ scrM (up2 I 135 4 0) I')) := by
  have q0 := hws.1
  have q1 := hws.2.1
  have q2 := hwp.1
  have q3 := hwp.2.1
  have q4 := hwi.1
  have q5 := hwi.2.1
  have hr := hws.2.2.1 k hk
  have hF := scrM.refl (up2 I 135 4 0)
  refine ev_n (fr' := (4, [some (vr 135), some (vi (i : Int)), some (vi (k : Int)), some (vi 7)], [vi (k : Int), vi (i : Int), vr 135, vr 135])) (S' := MS I J cc ss) 4 rfl ?_
  refine ev_cv rfl rfl rfl ⟨Nat.le_of_ble_eq_true rfl, Nat.le_of_ble_eq_true rfl⟩ (sp_isOut0 X _ _ _ _ i k hg hws hwp hwi (by omega) (by omega)) ?_
  show Ev X k_X9_measure (7, [some (vr 135), some (vi (i : Int)), some (vi (k : Int)), some (vi 7)], [vi 0, vr 135]) (MS I J cc ss) _
  refine ev_n (fr' := (20, [some (vr 135), some (vi (i : Int)), some (vi (k : Int)), some (vi 7)], [vl 7, vl 0, vl 7, vr 135])) (S' := MS I J cc ss) 5 rfl ?_
  refine ev_cv rfl rfl rfl ⟨Nat.le_of_ble_eq_true rfl, Nat.le_of_ble_eq_true rfl⟩ (sp_isIn X _ 7 0 7 ) ?_
  show Ev X k_X9_measure (23, [some (vr 135), some (vi (i : Int)), some (vi (k : Int)), some (vi 7)], [vi (if 0 ≤ 7 ∧ 7 ≤ 7 then 1 else 0), vr 135]) (MS I J cc ss) _
  refine ev_beq _ rfl (by decide) (fun (g1 : ¬ (0 ≤ 7 ∧ 7 ≤ 7)) => False.elim (g1 (by omega))) (fun (g1 : 0 ≤ 7 ∧ 7 ≤ 7) => ?_)
  show Ev X k_X9_measure (26, [some (vr 135), some (vi (i : Int)), some (vi (k : Int)), some (vi 7)], [vr 135]) (MS I J cc ss) _
  refine ev_n (fr' := (31, [some (vr 135), some (vi (i : Int)), some (vi (k : Int)), some (vi 7)], [vi 0, vr 135])) (S' := MS I J cc ss) 2 rfl ?_
  refine ev_n (fr' := (34, [some (vr 135), some (vi (i : Int)), some (vi (k : Int)), some (vi 7)], [])) (S' := MS (up2 I 135 4 0) J cc ss) 1 rfl ?_
  refine ev_n (fr' := (46, [some (vr 135), some (vi (i : Int)), some (vi (k : Int)), some (vi 7)], [vi (k : Int), vi (i : Int), vr 135])) (S' := MS (up2 I 135 4 0) J cc ss) 6 rfl ?_
  refine ev_cp rfl rfl rfl ⟨Nat.le_of_ble_eq_true rfl, Nat.le_of_ble_eq_true rfl⟩ (sp_drawsAtW X _ _ _ _ i k hg hws hwp hwi (by omega) (by omega)) (fun I1 J q2 => ?_)
  obtain ⟨rfl, r1, hW, hD⟩ := q2
  show Ev X k_X9_measure (49, [some (vr 135), some (vi (i : Int)), some (vi (k : Int)), some (vi 7)], []) (MS I1 J cc ss) _
  have hF := hF.trans r1.scr
  refine ev_n (fr' := (120, [some (vr 135), some (vi (i : Int)), some (vi (k : Int)), some (vi 7)], [vi (opI fRem 7 2), vr 135])) (S' := MS I1 J cc ss) 6 rfl ?_
  refine ev_eqi (show opI fRem 7 2 = 1 by decide) ?_
  show Ev X k_X9_measure (120, [some (vr 135), some (vi (i : Int)), some (vi (k : Int)), some (vi 7)], [vi 1, vr 135]) (MS I1 J cc ss) _
  refine ev_n (fr' := (139, [some (vr 135), some (vi (i : Int)), some (vi (k : Int)), some (vi 7)], [vi 1, vi 1, vr 135])) (S' := MS I1 J cc ss) 9 rfl ?_
  refine ev_cv rfl rfl rfl ⟨Nat.le_of_ble_eq_true rfl, Nat.le_of_ble_eq_true rfl⟩ (sp_edge_11 X _ _ _ _ hD) ?_
  show Ev X k_X9_measure (142, [some (vr 135), some (vi (i : Int)), some (vi (k : Int)), some (vi 7)], [vi (lastF (rowB (icF g i (g (2 * k + 1)) (g (2 * k + 2)))))]) (MS I1 J cc ss) _
  refine ev_r rfl rfl rfl ?_
  exact ⟨_, _, rfl, rfl, rfl, hF⟩
theorem rb_measure_2 (X : AX) (I J : Nat → Nat → Int) (cc ss : Nat) {g : F1} (i k n : Nat) (hg : J 136 = g) (hws : WS g) (hwp : WP g) (hwi : WI g) (hi : (i : Int) < g 308) (hk : (k : Int) < g 0) (hn : g (2 * k + 1) = (n : Int)) : Ev X k_X9_measure (0, [some (vr 135), some (vi (i : Int)), some (vi (k : Int)), some (vi 2)], []) (MS I J cc ss) (PV cc ss (some (vi (grpF n true false (icF g i (n : Int) (g (2 * k + 2)))))) (fun I' J' => J' = J ∧ scrM (up2 I 135 4 0) I')) := by
  have q0 := hws.1
  have q1 := hws.2.1
  have q2 := hwp.1
  have q3 := hwp.2.1
  have q4 := hwi.1
  have q5 := hwi.2.1
  have hr := hws.2.2.1 k hk
  have hF := scrM.refl (up2 I 135 4 0)
  refine ev_n (fr' := (4, [some (vr 135), some (vi (i : Int)), some (vi (k : Int)), some (vi 2)], [vi (k : Int), vi (i : Int), vr 135, vr 135])) (S' := MS I J cc ss) 4 rfl ?_
  refine ev_cv rfl rfl rfl ⟨Nat.le_of_ble_eq_true rfl, Nat.le_of_ble_eq_true rfl⟩ (sp_isOut0 X _ _ _ _ i k hg hws hwp hwi (by omega) (by omega)) ?_
  show Ev X k_X9_measure (7, [some (vr 135), some (vi (i : Int)), some (vi (k : Int)), some (vi 2)], [vi 0, vr 135]) (MS I J cc ss) _
  refine ev_n (fr' := (20, [some (vr 135), some (vi (i : Int)), some (vi (k : Int)), some (vi 2)], [vl 7, vl 0, vl 2, vr 135])) (S' := MS I J cc ss) 5 rfl ?_
  refine ev_cv rfl rfl rfl ⟨Nat.le_of_ble_eq_true rfl, Nat.le_of_ble_eq_true rfl⟩ (sp_isIn X _ 2 0 7 ) ?_
  show Ev X k_X9_measure (23, [some (vr 135), some (vi (i : Int)), some (vi (k : Int)), some (vi 2)], [vi (if 0 ≤ 2 ∧ 2 ≤ 7 then 1 else 0), vr 135]) (MS I J cc ss) _
  refine ev_beq _ rfl (by decide) (fun (g1 : ¬ (0 ≤ 2 ∧ 2 ≤ 7)) => False.elim (g1 (by omega))) (fun (g1 : 0 ≤ 2 ∧ 2 ≤ 7) => ?_)
  show Ev X k_X9_measure (26, [some (vr 135), some (vi (i : Int)), some (vi (k : Int)), some (vi 2)], [vr 135]) (MS I J cc ss) _
  refine ev_n (fr' := (31, [some (vr 135), some (vi (i : Int)), some (vi (k : Int)), some (vi 2)], [vi 0, vr 135])) (S' := MS I J cc ss) 2 rfl ?_
  refine ev_n (fr' := (34, [some (vr 135), some (vi (i : Int)), some (vi (k : Int)), some (vi 2)], [])) (S' := MS (up2 I 135 4 0) J cc ss) 1 rfl ?_
  refine ev_n (fr' := (46, [some (vr 135), some (vi (i : Int)), some (vi (k : Int)), some (vi 2)], [vi (k : Int), vi (i : Int), vr 135])) (S' := MS (up2 I 135 4 0) J cc ss) 6 rfl ?_
  refine ev_cp rfl rfl rfl ⟨Nat.le_of_ble_eq_true rfl, Nat.le_of_ble_eq_true rfl⟩ (sp_drawsAtW X _ _ _ _ i k hg hws hwp hwi (by omega) (by omega)) (fun I1 J q2 => ?_)
  obtain ⟨rfl, r1, hW, hD⟩ := q2
  show Ev X k_X9_measure (49, [some (vr 135), some (vi (i : Int)), some (vi (k : Int)), some (vi 2)], []) (MS I1 J cc ss) _
  have hF := hF.trans r1.scr
  refine ev_n (fr' := (106, [some (vr 135), some (vi (i : Int)), some (vi (k : Int)), some (vi 2)], [vi 1, vr 135])) (S' := MS I1 J cc ss) 4 rfl ?_
  rw [hn] at hW hD
  refine ev_cz rfl rfl rfl ⟨Nat.le_of_ble_eq_true rfl, Nat.le_of_ble_eq_true rfl⟩ (sp_groups1 X _ _ _ _ (by omega) hW hD) (fun z9 I3 J q4 => ?_)
  obtain ⟨rfl, r9, hz9⟩ := q4
  show Ev X k_X9_measure (109, [some (vr 135), some (vi (i : Int)), some (vi (k : Int)), some (vi 2)], [vi z9]) (MS I3 J cc ss) _
  have hF := hF.trans r9.scr
  rw [frO_pieces (fun y x q => by have := iconB_sup q; omega)] at hz9
  refine ev_r rfl rfl rfl ?_
  exact ⟨_, _, rfl, congrArg (fun z => Sum.inl (some (vi z))) hz9, rfl, hF⟩
theorem rb_measure_3 (X : AX) (I J : Nat → Nat → Int) (cc ss : Nat) {g : F1} (i k n : Nat) (hg : J 136 = g) (hws : WS g) (hwp : WP g) (hwi : WI g) (hi : (i : Int) < g 308) (hk : (k : Int) < g 0) (hn : g (2 * k + 1) = (n : Int)) : Ev X k_X9_measure (0, [some (vr 135), some (vi (i : Int)), some (vi (k : Int)), some (vi 3)], []) (MS I J cc ss) (PV cc ss (some (vi (grpF n false true (holB (icF g i (n : Int) (g (2 * k + 2))) n)))) (fun I' J' => J' = J ∧ scrM (up2 I 135 4 0) I')) := by
  have q0 := hws.1
  have q1 := hws.2.1
  have q2 := hwp.1
  have q3 := hwp.2.1
  have q4 := hwi.1
  have q5 := hwi.2.1
  have hr := hws.2.2.1 k hk
  have hF := scrM.refl (up2 I 135 4 0)
  refine ev_n (fr' := (4, [some (vr 135), some (vi (i : Int)), some (vi (k : Int)), some (vi 3)], [vi (k : Int), vi (i : Int), vr 135, vr 135])) (S' := MS I J cc ss) 4 rfl ?_
  refine ev_cv rfl rfl rfl ⟨Nat.le_of_ble_eq_true rfl, Nat.le_of_ble_eq_true rfl⟩ (sp_isOut0 X _ _ _ _ i k hg hws hwp hwi (by omega) (by omega)) ?_
  show Ev X k_X9_measure (7, [some (vr 135), some (vi (i : Int)), some (vi (k : Int)), some (vi 3)], [vi 0, vr 135]) (MS I J cc ss) _
  refine ev_n (fr' := (20, [some (vr 135), some (vi (i : Int)), some (vi (k : Int)), some (vi 3)], [vl 7, vl 0, vl 3, vr 135])) (S' := MS I J cc ss) 5 rfl ?_
  refine ev_cv rfl rfl rfl ⟨Nat.le_of_ble_eq_true rfl, Nat.le_of_ble_eq_true rfl⟩ (sp_isIn X _ 3 0 7 ) ?_
  show Ev X k_X9_measure (23, [some (vr 135), some (vi (i : Int)), some (vi (k : Int)), some (vi 3)], [vi (if 0 ≤ 3 ∧ 3 ≤ 7 then 1 else 0), vr 135]) (MS I J cc ss) _
  refine ev_beq _ rfl (by decide) (fun (g1 : ¬ (0 ≤ 3 ∧ 3 ≤ 7)) => False.elim (g1 (by omega))) (fun (g1 : 0 ≤ 3 ∧ 3 ≤ 7) => ?_)
  show Ev X k_X9_measure (26, [some (vr 135), some (vi (i : Int)), some (vi (k : Int)), some (vi 3)], [vr 135]) (MS I J cc ss) _
  refine ev_n (fr' := (31, [some (vr 135), some (vi (i : Int)), some (vi (k : Int)), some (vi 3)], [vi 0, vr 135])) (S' := MS I J cc ss) 2 rfl ?_
  refine ev_n (fr' := (34, [some (vr 135), some (vi (i : Int)), some (vi (k : Int)), some (vi 3)], [])) (S' := MS (up2 I 135 4 0) J cc ss) 1 rfl ?_
  refine ev_n (fr' := (46, [some (vr 135), some (vi (i : Int)), some (vi (k : Int)), some (vi 3)], [vi (k : Int), vi (i : Int), vr 135])) (S' := MS (up2 I 135 4 0) J cc ss) 6 rfl ?_
  refine ev_cp rfl rfl rfl ⟨Nat.le_of_ble_eq_true rfl, Nat.le_of_ble_eq_true rfl⟩ (sp_drawsAtW X _ _ _ _ i k hg hws hwp hwi (by omega) (by omega)) (fun I1 J q2 => ?_)
  obtain ⟨rfl, r1, hW, hD⟩ := q2
  show Ev X k_X9_measure (49, [some (vr 135), some (vi (i : Int)), some (vi (k : Int)), some (vi 3)], []) (MS I1 J cc ss) _
  have hF := hF.trans r1.scr
  refine ev_n (fr' := (112, [some (vr 135), some (vi (i : Int)), some (vi (k : Int)), some (vi 3)], [vi 0, vr 135])) (S' := MS I1 J cc ss) 4 rfl ?_
  rw [hn] at hW hD
  refine ev_cz rfl rfl rfl ⟨Nat.le_of_ble_eq_true rfl, Nat.le_of_ble_eq_true rfl⟩ (sp_groups0 X _ _ _ _ (by omega) hW hD) (fun z9 I3 J q4 => ?_)
  obtain ⟨rfl, r9, hz9⟩ := q4
  show Ev X k_X9_measure (115, [some (vr 135), some (vi (i : Int)), some (vi (k : Int)), some (vi 3)], [vi z9]) (MS I3 J cc ss) _
  have hF := hF.trans r9.scr
  rw [frO_holes] at hz9
  refine ev_r rfl rfl rfl ?_
  exact ⟨_, _, rfl, congrArg (fun z => Sum.inl (some (vi z))) hz9, rfl, hF⟩
