/-! PUBLIC QUESTIONS, reference: extremes, best extra, indifferent icons (printed by gen/g82.py) -/
theorem rb_extreme_x (X : AX) (I J : Nat → Nat → Int) (cc ss : Nat) {g : F1} (y t : Int) (hg : J 136 = g) (hws : WS g) (hwp : WP g) (hwi : WI g) (h : ¬ (0 ≤ y ∧ y < g 0)) : Ev X k_X9_extreme (0, [some (vr 135), some (vi y), some (vi t), none, none, none, none], []) (MS I J cc ss) (fun o T => o = .inl (some (vi 0)) ∧ T = MS (up2 I 135 4 1) J cc ss) := by
  have q0 := hws.1
  have q1 := hws.2.1
  have q2 := hwp.1
  have q3 := hwp.2.1
  have q4 := hwi.1
  have q5 := hwi.2.1
  refine ev_n (fr' := (3, [some (vr 135), some (vi y), some (vi t), none, none, none, none], [vi y, vr 135, vr 135])) (S' := MS I J cc ss) 3 rfl ?_
  refine ev_cv rfl rfl rfl ⟨Nat.le_of_ble_eq_true rfl, Nat.le_of_ble_eq_true rfl⟩ (sp_isSize_r X _ _ _ _ y hg hws) ?_
  show Ev X k_X9_extreme (6, [some (vr 135), some (vi y), some (vi t), none, none, none, none], [vi (if 0 ≤ y ∧ y ≤ g 0 - 1 then 1 else 0), vr 135]) (MS I J cc ss) _
  refine ev_bne _ rfl (by decide) (fun (g1 : 0 ≤ y ∧ y ≤ g 0 - 1) => False.elim ((show ¬ (0 ≤ y ∧ y ≤ g 0 - 1) from by omega) g1)) (fun (g1 : ¬ (0 ≤ y ∧ y ≤ g 0 - 1)) => ?_)
  show Ev X k_X9_extreme (9, [some (vr 135), some (vi y), some (vi t), none, none, none, none], [vr 135]) (MS I J cc ss) _
  refine ev_n (fr' := (31, [some (vr 135), some (vi y), some (vi t), none, none, none, none], [vi 1, vr 135])) (S' := MS I J cc ss) 2 rfl ?_
  refine ev_n (fr' := (34, [some (vr 135), some (vi y), some (vi t), none, none, none, none], [])) (S' := MS (up2 I 135 4 1) J cc ss) 1 rfl ?_
  refine ev_n (fr' := (42, [some (vr 135), some (vi y), some (vi t), none, none, none, none], [vi 0])) (S' := MS (up2 I 135 4 1) J cc ss) 4 rfl ?_
  refine ev_r rfl rfl rfl ?_
  exact ⟨rfl, rfl⟩
theorem rb_extreme_y (X : AX) (I J : Nat → Nat → Int) (cc ss : Nat) {g : F1} (k : Nat) (t : Int) (hg : J 136 = g) (hws : WS g) (hwp : WP g) (hwi : WI g) (hk : (k : Int) < g 0) (h : g 308 = 0) : Ev X k_X9_extreme (0, [some (vr 135), some (vi (k : Int)), some (vi t), none, none, none, none], []) (MS I J cc ss) (fun o T => o = .inl (some (vi 0)) ∧ T = MS (up2 I 135 4 2) J cc ss) := by
  have q0 := hws.1
  have q1 := hws.2.1
  have q2 := hwp.1
  have q3 := hwp.2.1
  have q4 := hwi.1
  have q5 := hwi.2.1
  refine ev_n (fr' := (3, [some (vr 135), some (vi (k : Int)), some (vi t), none, none, none, none], [vi (k : Int), vr 135, vr 135])) (S' := MS I J cc ss) 3 rfl ?_
  refine ev_cv rfl rfl rfl ⟨Nat.le_of_ble_eq_true rfl, Nat.le_of_ble_eq_true rfl⟩ (sp_isSize_r X _ _ _ _ (k : Int) hg hws) ?_
  show Ev X k_X9_extreme (6, [some (vr 135), some (vi (k : Int)), some (vi t), none, none, none, none], [vi (if 0 ≤ (k : Int) ∧ (k : Int) ≤ g 0 - 1 then 1 else 0), vr 135]) (MS I J cc ss) _
  refine ev_bne _ rfl (by decide) (fun (g1 : 0 ≤ (k : Int) ∧ (k : Int) ≤ g 0 - 1) => ?_) (fun (g1 : ¬ (0 ≤ (k : Int) ∧ (k : Int) ≤ g 0 - 1)) => False.elim (g1 (by omega)))
  show Ev X k_X9_extreme (13, [some (vr 135), some (vi (k : Int)), some (vi t), none, none, none, none], [vr 135]) (MS I J cc ss) _
  refine ev_n (fr' := (20, [some (vr 135), some (vi (k : Int)), some (vi t), none, none, none, none], [vi 308, vr 136, vr 135])) (S' := MS I J cc ss) 3 rfl ?_
  refine ev_laN (j := 308) (z := (g 308)) rfl rfl (by omega) (by omega) (congrFun hg _) ?_
  show Ev X k_X9_extreme (21, [some (vr 135), some (vi (k : Int)), some (vi t), none, none, none, none], [vl (g 308), vr 135]) (MS I J cc ss) _
  refine ev_n (fr' := (22, [some (vr 135), some (vi (k : Int)), some (vi t), none, none, none, none], [vl 0, vl (g 308), vr 135])) (S' := MS I J cc ss) 1 rfl ?_
  refine ev_lc (c := .ne) (off := 7) rfl rfl (by decide) (fun (g2 : (g 308) ≠ 0) => False.elim (by omega)) (fun (g2 : ¬ ((g 308) ≠ 0)) => ?_)
  show Ev X k_X9_extreme (26, [some (vr 135), some (vi (k : Int)), some (vi t), none, none, none, none], [vr 135]) (MS I J cc ss) _
  refine ev_n (fr' := (31, [some (vr 135), some (vi (k : Int)), some (vi t), none, none, none, none], [vi 2, vr 135])) (S' := MS I J cc ss) 2 rfl ?_
  refine ev_n (fr' := (34, [some (vr 135), some (vi (k : Int)), some (vi t), none, none, none, none], [])) (S' := MS (up2 I 135 4 2) J cc ss) 1 rfl ?_
  refine ev_n (fr' := (42, [some (vr 135), some (vi (k : Int)), some (vi t), none, none, none, none], [vi 0])) (S' := MS (up2 I 135 4 2) J cc ss) 4 rfl ?_
  refine ev_r rfl rfl rfl ?_
  exact ⟨rfl, rfl⟩
theorem lp_rex1 (X : AX) (I J : Nat → Nat → Int) (cc ss : Nat) {g : F1} (I0 : F2) (k : Nat) (hg : J 136 = g) (hws : WS g) (hwp : WP g) (hwi : WI g) (hk : (k : Int) < g 0) (j : Nat) (fd fw : Int) (v6 : Option AV) (hj1 : 1 ≤ j) (hj : (j : Int) ≤ g 308) (hfd : fd = ((exG (wtF g (g (2 * k + 1)) (g (2 * k + 2))) j : Nat) : Int)) (hfw : fw = wtF g (g (2 * k + 1)) (g (2 * k + 2)) (exG (wtF g (g (2 * k + 1)) (g (2 * k + 2))) j)) (hF : scrM I0 I) : Ev X k_X9_extreme (65, [some (vr 135), some (vi (k : Int)), some (vi 1), some (vi fd), some (vi fw), some (vi (j : Int)), v6], []) (MS I J cc ss) (PV cc ss (some (vi ((exG (wtF g (g (2 * k + 1)) (g (2 * k + 2))) (g 308).toNat : Nat) : Int))) (fun I' J' => J' = J ∧ scrM I0 I')) := by
  have q0 := hws.1
  have q1 := hws.2.1
  have q2 := hwp.1
  have q3 := hwp.2.1
  have q4 := hwi.1
  have q5 := hwi.2.1
  have hr := hws.2.2.1 k hk
  refine ev_n (fr' := (75, [some (vr 135), some (vi (k : Int)), some (vi 1), some (vi fd), some (vi fw), some (vi (j : Int)), v6], [vi 308, vr 136, vl (j : Int)])) (S' := MS I J cc ss) 5 rfl ?_
  refine ev_laN (j := 308) (z := (g 308)) rfl rfl (by omega) (by omega) (congrFun hg _) ?_
  show Ev X k_X9_extreme (76, [some (vr 135), some (vi (k : Int)), some (vi 1), some (vi fd), some (vi fw), some (vi (j : Int)), v6], [vl (g 308), vl (j : Int)]) (MS I J cc ss) _
  refine ev_lc (c := .ge) (off := 58) rfl rfl (by decide) (fun (g1 : (g 308) ≤ (j : Int)) => ?_) (fun (g1 : ¬ ((g 308) ≤ (j : Int))) => ?_)
  · show Ev X k_X9_extreme (135, [some (vr 135), some (vi (k : Int)), some (vi 1), some (vi fd), some (vi fw), some (vi (j : Int)), v6], []) (MS I J cc ss) _
    refine ev_n (fr' := (136, [some (vr 135), some (vi (k : Int)), some (vi 1), some (vi fd), some (vi fw), some (vi (j : Int)), v6], [vi fd])) (S' := MS I J cc ss) 1 rfl ?_
    refine ev_r rfl rfl rfl ?_
    exact ⟨_, _, rfl, congrArg (fun z => Sum.inl (some (vi z))) (by rw [hfd, show (g 308).toNat = j by omega]), rfl, hF⟩
  · show Ev X k_X9_extreme (80, [some (vr 135), some (vi (k : Int)), some (vi 1), some (vi fd), some (vi fw), some (vi (j : Int)), v6], []) (MS I J cc ss) _
    refine ev_n (fr' := (85, [some (vr 135), some (vi (k : Int)), some (vi 1), some (vi fd), some (vi fw), some (vi (j : Int)), v6], [vi (k : Int), vr 135, vi (j : Int), vr 135])) (S' := MS I J cc ss) 4 rfl ?_
    refine ev_cv rfl rfl rfl ⟨Nat.le_of_ble_eq_true rfl, Nat.le_of_ble_eq_true rfl⟩ (sp_pixelsOf_r X _ _ _ _ k hg hws (by omega)) ?_
    show Ev X k_X9_extreme (88, [some (vr 135), some (vi (k : Int)), some (vi 1), some (vi fd), some (vi fw), some (vi (j : Int)), v6], [vi (g (2 * k + 1)), vi (j : Int), vr 135]) (MS I J cc ss) _
    refine ev_n (fr' := (90, [some (vr 135), some (vi (k : Int)), some (vi 1), some (vi fd), some (vi fw), some (vi (j : Int)), v6], [vi (k : Int), vr 135, vi (g (2 * k + 1)), vi (j : Int), vr 135])) (S' := MS I J cc ss) 2 rfl ?_
    refine ev_cv rfl rfl rfl ⟨Nat.le_of_ble_eq_true rfl, Nat.le_of_ble_eq_true rfl⟩ (sp_extraOf_r X _ _ _ _ k hg hws (by omega)) ?_
    show Ev X k_X9_extreme (93, [some (vr 135), some (vi (k : Int)), some (vi 1), some (vi fd), some (vi fw), some (vi (j : Int)), v6], [vi (g (2 * k + 2)), vi (g (2 * k + 1)), vi (j : Int), vr 135]) (MS I J cc ss) _
    refine ev_cz rfl rfl rfl ⟨Nat.le_of_ble_eq_true rfl, Nat.le_of_ble_eq_true rfl⟩ (sp_weightOf X _ _ _ _ j (g (2 * k + 1)) (g (2 * k + 2)) hg hwp hwi (by omega) (by omega) (by omega)) (fun zI1 I1 J q2 => ?_)
    obtain ⟨rfl, rI1, hzI1⟩ := q2
    show Ev X k_X9_extreme (96, [some (vr 135), some (vi (k : Int)), some (vi 1), some (vi fd), some (vi fw), some (vi (j : Int)), v6], [vi zI1]) (MS I1 J cc ss) _
    rw [hzI1]
    have hF := hF.trans rI1
    have := wtF_rng (g := g) (P := (g (2 * k + 1))) (e := (g (2 * k + 2))) (by omega) j
    refine ev_n (fr' := (106, [some (vr 135), some (vi (k : Int)), some (vi 1), some (vi fd), some (vi fw), some (vi (j : Int)), some (vi (wtF g (g (2 * k + 1)) (g (2 * k + 2)) j))], [vi fw, vi (wtF g (g (2 * k + 1)) (g (2 * k + 2)) j)])) (S' := MS I1 J cc ss) 5 rfl ?_
    refine ev_ic (c := .gt) (off := 16) rfl (by decide) (fun (g2 : fw < (wtF g (g (2 * k + 1)) (g (2 * k + 2)) j)) => ?_) (fun (g2 : ¬ (fw < (wtF g (g (2 * k + 1)) (g (2 * k + 2)) j))) => ?_)
    · show Ev X k_X9_extreme (122, [some (vr 135), some (vi (k : Int)), some (vi 1), some (vi fd), some (vi fw), some (vi (j : Int)), some (vi (wtF g (g (2 * k + 1)) (g (2 * k + 2)) j))], []) (MS I1 J cc ss) _
      refine ev_n (fr' := (129, [some (vr 135), some (vi (k : Int)), some (vi 1), some (vi (j : Int)), some (vi (wtF g (g (2 * k + 1)) (g (2 * k + 2)) j)), some (vi (j : Int)), some (vi (wtF g (g (2 * k + 1)) (g (2 * k + 2)) j))], [])) (S' := MS I1 J cc ss) 4 rfl ?_
      refine ev_inc (z := (j : Int) + 1) rfl rfl (by omega) (by omega) (by omega) rfl ?_
      show Ev X k_X9_extreme (132, [some (vr 135), some (vi (k : Int)), some (vi 1), some (vi (j : Int)), some (vi (wtF g (g (2 * k + 1)) (g (2 * k + 2)) j)), some (vi ((j : Int) + 1)), some (vi (wtF g (g (2 * k + 1)) (g (2 * k + 2)) j))], []) (MS I1 J cc ss) _
      refine ev_n (fr' := (65, [some (vr 135), some (vi (k : Int)), some (vi 1), some (vi (j : Int)), some (vi (wtF g (g (2 * k + 1)) (g (2 * k + 2)) j)), some (vi ((j : Int) + 1)), some (vi (wtF g (g (2 * k + 1)) (g (2 * k + 2)) j))], [])) (S' := MS I1 J cc ss) 1 rfl ?_
      have hst : exG (wtF g (g (2 * k + 1)) (g (2 * k + 2))) (j + 1) = (if j = 0 then 0 else if wtF g (g (2 * k + 1)) (g (2 * k + 2)) (exG (wtF g (g (2 * k + 1)) (g (2 * k + 2))) j) < wtF g (g (2 * k + 1)) (g (2 * k + 2)) j then j else exG (wtF g (g (2 * k + 1)) (g (2 * k + 2))) j) := rfl
      rw [if_neg (by omega)] at hst
      rw [hfw] at g2
      rw [if_pos g2] at hst
      exact lp_rex1 X _ _ cc ss I0 k hg hws hwp hwi hk (j + 1) _ _ _ (by omega) (by omega) (by rw [hst]) (by rw [hst]) hF
    · show Ev X k_X9_extreme (109, [some (vr 135), some (vi (k : Int)), some (vi 1), some (vi fd), some (vi fw), some (vi (j : Int)), some (vi (wtF g (g (2 * k + 1)) (g (2 * k + 2)) j))], []) (MS I1 J cc ss) _
      refine ev_n (fr' := (129, [some (vr 135), some (vi (k : Int)), some (vi 1), some (vi fd), some (vi fw), some (vi (j : Int)), some (vi (wtF g (g (2 * k + 1)) (g (2 * k + 2)) j))], [])) (S' := MS I1 J cc ss) 1 rfl ?_
      refine ev_inc (z := (j : Int) + 1) rfl rfl (by omega) (by omega) (by omega) rfl ?_
      show Ev X k_X9_extreme (132, [some (vr 135), some (vi (k : Int)), some (vi 1), some (vi fd), some (vi fw), some (vi ((j : Int) + 1)), some (vi (wtF g (g (2 * k + 1)) (g (2 * k + 2)) j))], []) (MS I1 J cc ss) _
      refine ev_n (fr' := (65, [some (vr 135), some (vi (k : Int)), some (vi 1), some (vi fd), some (vi fw), some (vi ((j : Int) + 1)), some (vi (wtF g (g (2 * k + 1)) (g (2 * k + 2)) j))], [])) (S' := MS I1 J cc ss) 1 rfl ?_
      have hst : exG (wtF g (g (2 * k + 1)) (g (2 * k + 2))) (j + 1) = (if j = 0 then 0 else if wtF g (g (2 * k + 1)) (g (2 * k + 2)) (exG (wtF g (g (2 * k + 1)) (g (2 * k + 2))) j) < wtF g (g (2 * k + 1)) (g (2 * k + 2)) j then j else exG (wtF g (g (2 * k + 1)) (g (2 * k + 2))) j) := rfl
      rw [if_neg (by omega)] at hst
      rw [hfw] at g2
      rw [if_neg g2] at hst
      exact lp_rex1 X _ _ cc ss I0 k hg hws hwp hwi hk (j + 1) _ _ _ (by omega) (by omega) (by rw [hst]; exact hfd) (by rw [hst]; first | exact hfw | rfl) hF
termination_by 9 - j
decreasing_by all_goals omega
theorem rb_extreme_1 (X : AX) (I J : Nat → Nat → Int) (cc ss : Nat) {g : F1} (k : Nat) (hg : J 136 = g) (hws : WS g) (hwp : WP g) (hwi : WI g) (hk : (k : Int) < g 0) (hn0 : g 308 ≠ 0) : Ev X k_X9_extreme (0, [some (vr 135), some (vi (k : Int)), some (vi 1), none, none, none, none], []) (MS I J cc ss) (PV cc ss (some (vi (((exG (wtF g (g (2 * k + 1)) (g (2 * k + 2))) (g 308).toNat : Nat) : Int)))) (fun I' J' => J' = J ∧ scrM (up2 I 135 4 0) I')) := by
  have q0 := hws.1
  have q1 := hws.2.1
  have q2 := hwp.1
  have q3 := hwp.2.1
  have q4 := hwi.1
  have q5 := hwi.2.1
  have hr := hws.2.2.1 k hk
  have hF := scrM.refl (up2 I 135 4 0)
  refine ev_n (fr' := (3, [some (vr 135), some (vi (k : Int)), some (vi 1), none, none, none, none], [vi (k : Int), vr 135, vr 135])) (S' := MS I J cc ss) 3 rfl ?_
  refine ev_cv rfl rfl rfl ⟨Nat.le_of_ble_eq_true rfl, Nat.le_of_ble_eq_true rfl⟩ (sp_isSize_r X _ _ _ _ (k : Int) hg hws) ?_
  show Ev X k_X9_extreme (6, [some (vr 135), some (vi (k : Int)), some (vi 1), none, none, none, none], [vi (if 0 ≤ (k : Int) ∧ (k : Int) ≤ g 0 - 1 then 1 else 0), vr 135]) (MS I J cc ss) _
  refine ev_bne _ rfl (by decide) (fun (g1 : 0 ≤ (k : Int) ∧ (k : Int) ≤ g 0 - 1) => ?_) (fun (g1 : ¬ (0 ≤ (k : Int) ∧ (k : Int) ≤ g 0 - 1)) => False.elim (g1 (by omega)))
  show Ev X k_X9_extreme (13, [some (vr 135), some (vi (k : Int)), some (vi 1), none, none, none, none], [vr 135]) (MS I J cc ss) _
  refine ev_n (fr' := (20, [some (vr 135), some (vi (k : Int)), some (vi 1), none, none, none, none], [vi 308, vr 136, vr 135])) (S' := MS I J cc ss) 3 rfl ?_
  refine ev_laN (j := 308) (z := (g 308)) rfl rfl (by omega) (by omega) (congrFun hg _) ?_
  show Ev X k_X9_extreme (21, [some (vr 135), some (vi (k : Int)), some (vi 1), none, none, none, none], [vl (g 308), vr 135]) (MS I J cc ss) _
  refine ev_n (fr' := (22, [some (vr 135), some (vi (k : Int)), some (vi 1), none, none, none, none], [vl 0, vl (g 308), vr 135])) (S' := MS I J cc ss) 1 rfl ?_
  refine ev_lc (c := .ne) (off := 7) rfl rfl (by decide) (fun (g2 : (g 308) ≠ 0) => ?_) (fun (g2 : ¬ ((g 308) ≠ 0)) => False.elim (by omega))
  show Ev X k_X9_extreme (30, [some (vr 135), some (vi (k : Int)), some (vi 1), none, none, none, none], [vr 135]) (MS I J cc ss) _
  refine ev_n (fr' := (31, [some (vr 135), some (vi (k : Int)), some (vi 1), none, none, none, none], [vi 0, vr 135])) (S' := MS I J cc ss) 1 rfl ?_
  refine ev_n (fr' := (34, [some (vr 135), some (vi (k : Int)), some (vi 1), none, none, none, none], [])) (S' := MS (up2 I 135 4 0) J cc ss) 1 rfl ?_
  refine ev_n (fr' := (49, [some (vr 135), some (vi (k : Int)), some (vi 1), some (vi 0), none, none, none], [vi (k : Int), vr 135, vi 0, vr 135])) (S' := MS (up2 I 135 4 0) J cc ss) 9 rfl ?_
  refine ev_cv rfl rfl rfl ⟨Nat.le_of_ble_eq_true rfl, Nat.le_of_ble_eq_true rfl⟩ (sp_pixelsOf_r X _ _ _ _ k hg hws (by omega)) ?_
  show Ev X k_X9_extreme (52, [some (vr 135), some (vi (k : Int)), some (vi 1), some (vi 0), none, none, none], [vi (g (2 * k + 1)), vi 0, vr 135]) (MS (up2 I 135 4 0) J cc ss) _
  refine ev_n (fr' := (54, [some (vr 135), some (vi (k : Int)), some (vi 1), some (vi 0), none, none, none], [vi (k : Int), vr 135, vi (g (2 * k + 1)), vi 0, vr 135])) (S' := MS (up2 I 135 4 0) J cc ss) 2 rfl ?_
  refine ev_cv rfl rfl rfl ⟨Nat.le_of_ble_eq_true rfl, Nat.le_of_ble_eq_true rfl⟩ (sp_extraOf_r X _ _ _ _ k hg hws (by omega)) ?_
  show Ev X k_X9_extreme (57, [some (vr 135), some (vi (k : Int)), some (vi 1), some (vi 0), none, none, none], [vi (g (2 * k + 2)), vi (g (2 * k + 1)), vi 0, vr 135]) (MS (up2 I 135 4 0) J cc ss) _
  refine ev_cz rfl rfl rfl ⟨Nat.le_of_ble_eq_true rfl, Nat.le_of_ble_eq_true rfl⟩ (sp_weightOf X _ _ _ _ 0 (g (2 * k + 1)) (g (2 * k + 2)) hg hwp hwi (by omega) (by omega) (by omega)) (fun zI1 I1 J q2 => ?_)
  obtain ⟨rfl, rI1, hzI1⟩ := q2
  show Ev X k_X9_extreme (60, [some (vr 135), some (vi (k : Int)), some (vi 1), some (vi 0), none, none, none], [vi zI1]) (MS I1 J cc ss) _
  rw [hzI1]
  have hF := hF.trans rI1
  have := wtF_rng (g := g) (P := (g (2 * k + 1))) (e := (g (2 * k + 2))) (by omega) 0
  refine ev_n (fr' := (65, [some (vr 135), some (vi (k : Int)), some (vi 1), some (vi 0), some (vi (wtF g (g (2 * k + 1)) (g (2 * k + 2)) 0)), some (vi 1), none], [])) (S' := MS I1 J cc ss) 3 rfl ?_
  exact lp_rex1 X _ _ cc ss (up2 I 135 4 0) k hg hws hwp hwi hk 1 _ _ _ (by omega) (by omega) rfl rfl hF
theorem lp_rex0 (X : AX) (I J : Nat → Nat → Int) (cc ss : Nat) {g : F1} (I0 : F2) (k : Nat) (hg : J 136 = g) (hws : WS g) (hwp : WP g) (hwi : WI g) (hk : (k : Int) < g 0) (j : Nat) (fd fw : Int) (v6 : Option AV) (hj1 : 1 ≤ j) (hj : (j : Int) ≤ g 308) (hfd : fd = ((exL (wtF g (g (2 * k + 1)) (g (2 * k + 2))) j : Nat) : Int)) (hfw : fw = wtF g (g (2 * k + 1)) (g (2 * k + 2)) (exL (wtF g (g (2 * k + 1)) (g (2 * k + 2))) j)) (hF : scrM I0 I) : Ev X k_X9_extreme (65, [some (vr 135), some (vi (k : Int)), some (vi 0), some (vi fd), some (vi fw), some (vi (j : Int)), v6], []) (MS I J cc ss) (PV cc ss (some (vi ((exL (wtF g (g (2 * k + 1)) (g (2 * k + 2))) (g 308).toNat : Nat) : Int))) (fun I' J' => J' = J ∧ scrM I0 I')) := by
  have q0 := hws.1
  have q1 := hws.2.1
  have q2 := hwp.1
  have q3 := hwp.2.1
  have q4 := hwi.1
  have q5 := hwi.2.1
  have hr := hws.2.2.1 k hk
  refine ev_n (fr' := (75, [some (vr 135), some (vi (k : Int)), some (vi 0), some (vi fd), some (vi fw), some (vi (j : Int)), v6], [vi 308, vr 136, vl (j : Int)])) (S' := MS I J cc ss) 5 rfl ?_
  refine ev_laN (j := 308) (z := (g 308)) rfl rfl (by omega) (by omega) (congrFun hg _) ?_
  show Ev X k_X9_extreme (76, [some (vr 135), some (vi (k : Int)), some (vi 0), some (vi fd), some (vi fw), some (vi (j : Int)), v6], [vl (g 308), vl (j : Int)]) (MS I J cc ss) _
  refine ev_lc (c := .ge) (off := 58) rfl rfl (by decide) (fun (g1 : (g 308) ≤ (j : Int)) => ?_) (fun (g1 : ¬ ((g 308) ≤ (j : Int))) => ?_)
  · show Ev X k_X9_extreme (135, [some (vr 135), some (vi (k : Int)), some (vi 0), some (vi fd), some (vi fw), some (vi (j : Int)), v6], []) (MS I J cc ss) _
    refine ev_n (fr' := (136, [some (vr 135), some (vi (k : Int)), some (vi 0), some (vi fd), some (vi fw), some (vi (j : Int)), v6], [vi fd])) (S' := MS I J cc ss) 1 rfl ?_
    refine ev_r rfl rfl rfl ?_
    exact ⟨_, _, rfl, congrArg (fun z => Sum.inl (some (vi z))) (by rw [hfd, show (g 308).toNat = j by omega]), rfl, hF⟩
  · show Ev X k_X9_extreme (80, [some (vr 135), some (vi (k : Int)), some (vi 0), some (vi fd), some (vi fw), some (vi (j : Int)), v6], []) (MS I J cc ss) _
    refine ev_n (fr' := (85, [some (vr 135), some (vi (k : Int)), some (vi 0), some (vi fd), some (vi fw), some (vi (j : Int)), v6], [vi (k : Int), vr 135, vi (j : Int), vr 135])) (S' := MS I J cc ss) 4 rfl ?_
    refine ev_cv rfl rfl rfl ⟨Nat.le_of_ble_eq_true rfl, Nat.le_of_ble_eq_true rfl⟩ (sp_pixelsOf_r X _ _ _ _ k hg hws (by omega)) ?_
    show Ev X k_X9_extreme (88, [some (vr 135), some (vi (k : Int)), some (vi 0), some (vi fd), some (vi fw), some (vi (j : Int)), v6], [vi (g (2 * k + 1)), vi (j : Int), vr 135]) (MS I J cc ss) _
    refine ev_n (fr' := (90, [some (vr 135), some (vi (k : Int)), some (vi 0), some (vi fd), some (vi fw), some (vi (j : Int)), v6], [vi (k : Int), vr 135, vi (g (2 * k + 1)), vi (j : Int), vr 135])) (S' := MS I J cc ss) 2 rfl ?_
    refine ev_cv rfl rfl rfl ⟨Nat.le_of_ble_eq_true rfl, Nat.le_of_ble_eq_true rfl⟩ (sp_extraOf_r X _ _ _ _ k hg hws (by omega)) ?_
    show Ev X k_X9_extreme (93, [some (vr 135), some (vi (k : Int)), some (vi 0), some (vi fd), some (vi fw), some (vi (j : Int)), v6], [vi (g (2 * k + 2)), vi (g (2 * k + 1)), vi (j : Int), vr 135]) (MS I J cc ss) _
    refine ev_cz rfl rfl rfl ⟨Nat.le_of_ble_eq_true rfl, Nat.le_of_ble_eq_true rfl⟩ (sp_weightOf X _ _ _ _ j (g (2 * k + 1)) (g (2 * k + 2)) hg hwp hwi (by omega) (by omega) (by omega)) (fun zI1 I1 J q2 => ?_)
    obtain ⟨rfl, rI1, hzI1⟩ := q2
    show Ev X k_X9_extreme (96, [some (vr 135), some (vi (k : Int)), some (vi 0), some (vi fd), some (vi fw), some (vi (j : Int)), v6], [vi zI1]) (MS I1 J cc ss) _
    rw [hzI1]
    have hF := hF.trans rI1
    have := wtF_rng (g := g) (P := (g (2 * k + 1))) (e := (g (2 * k + 2))) (by omega) j
    refine ev_n (fr' := (116, [some (vr 135), some (vi (k : Int)), some (vi 0), some (vi fd), some (vi fw), some (vi (j : Int)), some (vi (wtF g (g (2 * k + 1)) (g (2 * k + 2)) j))], [vi fw, vi (wtF g (g (2 * k + 1)) (g (2 * k + 2)) j)])) (S' := MS I1 J cc ss) 5 rfl ?_
    refine ev_ic (c := .lt) (off := 6) rfl (by decide) (fun (g2 : (wtF g (g (2 * k + 1)) (g (2 * k + 2)) j) < fw) => ?_) (fun (g2 : ¬ ((wtF g (g (2 * k + 1)) (g (2 * k + 2)) j) < fw)) => ?_)
    · show Ev X k_X9_extreme (122, [some (vr 135), some (vi (k : Int)), some (vi 0), some (vi fd), some (vi fw), some (vi (j : Int)), some (vi (wtF g (g (2 * k + 1)) (g (2 * k + 2)) j))], []) (MS I1 J cc ss) _
      refine ev_n (fr' := (129, [some (vr 135), some (vi (k : Int)), some (vi 0), some (vi (j : Int)), some (vi (wtF g (g (2 * k + 1)) (g (2 * k + 2)) j)), some (vi (j : Int)), some (vi (wtF g (g (2 * k + 1)) (g (2 * k + 2)) j))], [])) (S' := MS I1 J cc ss) 4 rfl ?_
      refine ev_inc (z := (j : Int) + 1) rfl rfl (by omega) (by omega) (by omega) rfl ?_
      show Ev X k_X9_extreme (132, [some (vr 135), some (vi (k : Int)), some (vi 0), some (vi (j : Int)), some (vi (wtF g (g (2 * k + 1)) (g (2 * k + 2)) j)), some (vi ((j : Int) + 1)), some (vi (wtF g (g (2 * k + 1)) (g (2 * k + 2)) j))], []) (MS I1 J cc ss) _
      refine ev_n (fr' := (65, [some (vr 135), some (vi (k : Int)), some (vi 0), some (vi (j : Int)), some (vi (wtF g (g (2 * k + 1)) (g (2 * k + 2)) j)), some (vi ((j : Int) + 1)), some (vi (wtF g (g (2 * k + 1)) (g (2 * k + 2)) j))], [])) (S' := MS I1 J cc ss) 1 rfl ?_
      have hst : exL (wtF g (g (2 * k + 1)) (g (2 * k + 2))) (j + 1) = (if j = 0 then 0 else if wtF g (g (2 * k + 1)) (g (2 * k + 2)) j < wtF g (g (2 * k + 1)) (g (2 * k + 2)) (exL (wtF g (g (2 * k + 1)) (g (2 * k + 2))) j) then j else exL (wtF g (g (2 * k + 1)) (g (2 * k + 2))) j) := rfl
      rw [if_neg (by omega)] at hst
      rw [hfw] at g2
      rw [if_pos g2] at hst
      exact lp_rex0 X _ _ cc ss I0 k hg hws hwp hwi hk (j + 1) _ _ _ (by omega) (by omega) (by rw [hst]) (by rw [hst]) hF
    · show Ev X k_X9_extreme (119, [some (vr 135), some (vi (k : Int)), some (vi 0), some (vi fd), some (vi fw), some (vi (j : Int)), some (vi (wtF g (g (2 * k + 1)) (g (2 * k + 2)) j))], []) (MS I1 J cc ss) _
      refine ev_n (fr' := (129, [some (vr 135), some (vi (k : Int)), some (vi 0), some (vi fd), some (vi fw), some (vi (j : Int)), some (vi (wtF g (g (2 * k + 1)) (g (2 * k + 2)) j))], [])) (S' := MS I1 J cc ss) 1 rfl ?_
      refine ev_inc (z := (j : Int) + 1) rfl rfl (by omega) (by omega) (by omega) rfl ?_
      show Ev X k_X9_extreme (132, [some (vr 135), some (vi (k : Int)), some (vi 0), some (vi fd), some (vi fw), some (vi ((j : Int) + 1)), some (vi (wtF g (g (2 * k + 1)) (g (2 * k + 2)) j))], []) (MS I1 J cc ss) _
      refine ev_n (fr' := (65, [some (vr 135), some (vi (k : Int)), some (vi 0), some (vi fd), some (vi fw), some (vi ((j : Int) + 1)), some (vi (wtF g (g (2 * k + 1)) (g (2 * k + 2)) j))], [])) (S' := MS I1 J cc ss) 1 rfl ?_
      have hst : exL (wtF g (g (2 * k + 1)) (g (2 * k + 2))) (j + 1) = (if j = 0 then 0 else if wtF g (g (2 * k + 1)) (g (2 * k + 2)) j < wtF g (g (2 * k + 1)) (g (2 * k + 2)) (exL (wtF g (g (2 * k + 1)) (g (2 * k + 2))) j) then j else exL (wtF g (g (2 * k + 1)) (g (2 * k + 2))) j) := rfl
      rw [if_neg (by omega)] at hst
      rw [hfw] at g2
      rw [if_neg g2] at hst
      exact lp_rex0 X _ _ cc ss I0 k hg hws hwp hwi hk (j + 1) _ _ _ (by omega) (by omega) (by rw [hst]; exact hfd) (by rw [hst]; first | exact hfw | rfl) hF
termination_by 9 - j
decreasing_by all_goals omega
theorem rb_extreme_0 (X : AX) (I J : Nat → Nat → Int) (cc ss : Nat) {g : F1} (k : Nat) (hg : J 136 = g) (hws : WS g) (hwp : WP g) (hwi : WI g) (hk : (k : Int) < g 0) (hn0 : g 308 ≠ 0) : Ev X k_X9_extreme (0, [some (vr 135), some (vi (k : Int)), some (vi 0), none, none, none, none], []) (MS I J cc ss) (PV cc ss (some (vi (((exL (wtF g (g (2 * k + 1)) (g (2 * k + 2))) (g 308).toNat : Nat) : Int)))) (fun I' J' => J' = J ∧ scrM (up2 I 135 4 0) I')) := by
  have q0 := hws.1
  have q1 := hws.2.1
  have q2 := hwp.1
  have q3 := hwp.2.1
  have q4 := hwi.1
  have q5 := hwi.2.1
  have hr := hws.2.2.1 k hk
  have hF := scrM.refl (up2 I 135 4 0)
  refine ev_n (fr' := (3, [some (vr 135), some (vi (k : Int)), some (vi 0), none, none, none, none], [vi (k : Int), vr 135, vr 135])) (S' := MS I J cc ss) 3 rfl ?_
  refine ev_cv rfl rfl rfl ⟨Nat.le_of_ble_eq_true rfl, Nat.le_of_ble_eq_true rfl⟩ (sp_isSize_r X _ _ _ _ (k : Int) hg hws) ?_
  show Ev X k_X9_extreme (6, [some (vr 135), some (vi (k : Int)), some (vi 0), none, none, none, none], [vi (if 0 ≤ (k : Int) ∧ (k : Int) ≤ g 0 - 1 then 1 else 0), vr 135]) (MS I J cc ss) _
  refine ev_bne _ rfl (by decide) (fun (g1 : 0 ≤ (k : Int) ∧ (k : Int) ≤ g 0 - 1) => ?_) (fun (g1 : ¬ (0 ≤ (k : Int) ∧ (k : Int) ≤ g 0 - 1)) => False.elim (g1 (by omega)))
  show Ev X k_X9_extreme (13, [some (vr 135), some (vi (k : Int)), some (vi 0), none, none, none, none], [vr 135]) (MS I J cc ss) _
  refine ev_n (fr' := (20, [some (vr 135), some (vi (k : Int)), some (vi 0), none, none, none, none], [vi 308, vr 136, vr 135])) (S' := MS I J cc ss) 3 rfl ?_
  refine ev_laN (j := 308) (z := (g 308)) rfl rfl (by omega) (by omega) (congrFun hg _) ?_
  show Ev X k_X9_extreme (21, [some (vr 135), some (vi (k : Int)), some (vi 0), none, none, none, none], [vl (g 308), vr 135]) (MS I J cc ss) _
  refine ev_n (fr' := (22, [some (vr 135), some (vi (k : Int)), some (vi 0), none, none, none, none], [vl 0, vl (g 308), vr 135])) (S' := MS I J cc ss) 1 rfl ?_
  refine ev_lc (c := .ne) (off := 7) rfl rfl (by decide) (fun (g2 : (g 308) ≠ 0) => ?_) (fun (g2 : ¬ ((g 308) ≠ 0)) => False.elim (by omega))
  show Ev X k_X9_extreme (30, [some (vr 135), some (vi (k : Int)), some (vi 0), none, none, none, none], [vr 135]) (MS I J cc ss) _
  refine ev_n (fr' := (31, [some (vr 135), some (vi (k : Int)), some (vi 0), none, none, none, none], [vi 0, vr 135])) (S' := MS I J cc ss) 1 rfl ?_
  refine ev_n (fr' := (34, [some (vr 135), some (vi (k : Int)), some (vi 0), none, none, none, none], [])) (S' := MS (up2 I 135 4 0) J cc ss) 1 rfl ?_
  refine ev_n (fr' := (49, [some (vr 135), some (vi (k : Int)), some (vi 0), some (vi 0), none, none, none], [vi (k : Int), vr 135, vi 0, vr 135])) (S' := MS (up2 I 135 4 0) J cc ss) 9 rfl ?_
  refine ev_cv rfl rfl rfl ⟨Nat.le_of_ble_eq_true rfl, Nat.le_of_ble_eq_true rfl⟩ (sp_pixelsOf_r X _ _ _ _ k hg hws (by omega)) ?_
  show Ev X k_X9_extreme (52, [some (vr 135), some (vi (k : Int)), some (vi 0), some (vi 0), none, none, none], [vi (g (2 * k + 1)), vi 0, vr 135]) (MS (up2 I 135 4 0) J cc ss) _
  refine ev_n (fr' := (54, [some (vr 135), some (vi (k : Int)), some (vi 0), some (vi 0), none, none, none], [vi (k : Int), vr 135, vi (g (2 * k + 1)), vi 0, vr 135])) (S' := MS (up2 I 135 4 0) J cc ss) 2 rfl ?_
  refine ev_cv rfl rfl rfl ⟨Nat.le_of_ble_eq_true rfl, Nat.le_of_ble_eq_true rfl⟩ (sp_extraOf_r X _ _ _ _ k hg hws (by omega)) ?_
  show Ev X k_X9_extreme (57, [some (vr 135), some (vi (k : Int)), some (vi 0), some (vi 0), none, none, none], [vi (g (2 * k + 2)), vi (g (2 * k + 1)), vi 0, vr 135]) (MS (up2 I 135 4 0) J cc ss) _
  refine ev_cz rfl rfl rfl ⟨Nat.le_of_ble_eq_true rfl, Nat.le_of_ble_eq_true rfl⟩ (sp_weightOf X _ _ _ _ 0 (g (2 * k + 1)) (g (2 * k + 2)) hg hwp hwi (by omega) (by omega) (by omega)) (fun zI1 I1 J q2 => ?_)
  obtain ⟨rfl, rI1, hzI1⟩ := q2
  show Ev X k_X9_extreme (60, [some (vr 135), some (vi (k : Int)), some (vi 0), some (vi 0), none, none, none], [vi zI1]) (MS I1 J cc ss) _
  rw [hzI1]
  have hF := hF.trans rI1
  have := wtF_rng (g := g) (P := (g (2 * k + 1))) (e := (g (2 * k + 2))) (by omega) 0
  refine ev_n (fr' := (65, [some (vr 135), some (vi (k : Int)), some (vi 0), some (vi 0), some (vi (wtF g (g (2 * k + 1)) (g (2 * k + 2)) 0)), some (vi 1), none], [])) (S' := MS I1 J cc ss) 3 rfl ?_
  exact lp_rex0 X _ _ cc ss (up2 I 135 4 0) k hg hws hwp hwi hk 1 _ _ _ (by omega) (by omega) rfl rfl hF
theorem beF_eq {h : Int → Int} {w d0 d1 : Int} (h0 : absF (h 0 - w) < d0) (h1 : absF (h 0 - w) < d1) : ∀ n : Nat, beF h w d0 (n + 1) = beF h w d1 (n + 1)
  | 0 => by
    show (if absF (h 0 - w) < d0 then ((0 : Int), absF (h 0 - w)) else (0, d0)) = (if absF (h 0 - w) < d1 then ((0 : Int), absF (h 0 - w)) else (0, d1))
    rw [if_pos h0, if_pos h1]
  | n + 1 => by
    have := beF_eq h0 h1 n
    unfold beF
    rw [this]
theorem abs1000 {a b : Int} (h : 0 ≤ a ∧ a ≤ 1000) (h2 : 0 ≤ b ∧ b ≤ 1000) : absF (a - b) < 1001 := by
  unfold absF; split <;> omega
theorem lp_rbe5 (X : AX) (I J : Nat → Nat → Int) (cc ss : Nat) {g : F1} (I0 : F2) (k l : Nat) (hg : J 136 = g) (hws : WS g) (hwp : WP g) (hwi : WI g) (hk : (k : Int) < g 0) (hl : g 0 = (l : Int) + 1) (hn0 : g 308 ≠ 0) (b d : Int) (v7 v8 : Option AV) (hb : b = (beF (mwF g (g (2 * k + 1))) (mwF g (g (2 * l + 1)) (g (2 * l + 2))) 1024 5).1) (hd : d = (beF (mwF g (g (2 * k + 1))) (mwF g (g (2 * l + 1)) (g (2 * l + 2))) 1024 5).2) (hF : scrM I0 I) : Ev X k_X9_bestExtra (79, [some (vr 135), some (vi (k : Int)), some (vi (l : Int)), some (vi (mwF g (g (2 * l + 1)) (g (2 * l + 2)))), some (vi b), some (vi d), some (vi 5), v7, v8], []) (MS I J cc ss) (PV cc ss (some (vi (beF (mwF g (g (2 * k + 1))) (mwF g (g (2 * l + 1)) (g (2 * l + 2))) 1024 5).1)) (fun I' J' => J' = J ∧ scrM I0 I')) := by
  have q0 := hws.1
  have q1 := hws.2.1
  have q2 := hwp.1
  have q3 := hwp.2.1
  have q4 := hwi.1
  have q5 := hwi.2.1
  have hr := hws.2.2.1 k hk
  have hr2 := hws.2.2.1 l (by omega)
  have hml := mwF_rng (g := g) (P := g (2 * l + 1)) (e := g (2 * l + 2)) hwi (by omega)
  refine ev_n (fr' := (164, [some (vr 135), some (vi (k : Int)), some (vi (l : Int)), some (vi (mwF g (g (2 * l + 1)) (g (2 * l + 2)))), some (vi b), some (vi d), some (vi 5), v7, v8], [vi b])) (S' := MS I J cc ss) 4 rfl ?_
  refine ev_r rfl rfl rfl ?_
  exact ⟨_, _, rfl, congrArg (fun z => Sum.inl (some (vi z))) hb, rfl, hF⟩
theorem lp_rbe4 (X : AX) (I J : Nat → Nat → Int) (cc ss : Nat) {g : F1} (I0 : F2) (k l : Nat) (hg : J 136 = g) (hws : WS g) (hwp : WP g) (hwi : WI g) (hk : (k : Int) < g 0) (hl : g 0 = (l : Int) + 1) (hn0 : g 308 ≠ 0) (b d : Int) (v7 v8 : Option AV) (hb : b = (beF (mwF g (g (2 * k + 1))) (mwF g (g (2 * l + 1)) (g (2 * l + 2))) 1024 4).1) (hd : d = (beF (mwF g (g (2 * k + 1))) (mwF g (g (2 * l + 1)) (g (2 * l + 2))) 1024 4).2) (hF : scrM I0 I) : Ev X k_X9_bestExtra (79, [some (vr 135), some (vi (k : Int)), some (vi (l : Int)), some (vi (mwF g (g (2 * l + 1)) (g (2 * l + 2)))), some (vi b), some (vi d), some (vi 4), v7, v8], []) (MS I J cc ss) (PV cc ss (some (vi (beF (mwF g (g (2 * k + 1))) (mwF g (g (2 * l + 1)) (g (2 * l + 2))) 1024 5).1)) (fun I' J' => J' = J ∧ scrM I0 I')) := by
  have q0 := hws.1
  have q1 := hws.2.1
  have q2 := hwp.1
  have q3 := hwp.2.1
  have q4 := hwi.1
  have q5 := hwi.2.1
  have hr := hws.2.2.1 k hk
  have hr2 := hws.2.2.1 l (by omega)
  have hml := mwF_rng (g := g) (P := g (2 * l + 1)) (e := g (2 * l + 2)) hwi (by omega)
  refine ev_n (fr' := (89, [some (vr 135), some (vi (k : Int)), some (vi (l : Int)), some (vi (mwF g (g (2 * l + 1)) (g (2 * l + 2)))), some (vi b), some (vi d), some (vi 4), v7, v8], [vi (opI fRem 4 2)])) (S' := MS I J cc ss) 6 rfl ?_
  refine ev_eqi (show opI fRem 4 2 = 0 by decide) ?_
  show Ev X k_X9_bestExtra (89, [some (vr 135), some (vi (k : Int)), some (vi (l : Int)), some (vi (mwF g (g (2 * l + 1)) (g (2 * l + 2)))), some (vi b), some (vi d), some (vi 4), v7, v8], [vi 0]) (MS I J cc ss) _
  refine ev_n (fr' := (96, [some (vr 135), some (vi (k : Int)), some (vi (l : Int)), some (vi (mwF g (g (2 * l + 1)) (g (2 * l + 2)))), some (vi b), some (vi d), some (vi 4), v7, v8], [vi (opI (· / ·) 4 2)])) (S' := MS I J cc ss) 4 rfl ?_
  refine ev_eqi (show opI (· / ·) 4 2 = 2 by decide) ?_
  show Ev X k_X9_bestExtra (96, [some (vr 135), some (vi (k : Int)), some (vi (l : Int)), some (vi (mwF g (g (2 * l + 1)) (g (2 * l + 2)))), some (vi b), some (vi d), some (vi 4), v7, v8], [vi 2]) (MS I J cc ss) _
  refine ev_n (fr' := (111, [some (vr 135), some (vi (k : Int)), some (vi (l : Int)), some (vi (mwF g (g (2 * l + 1)) (g (2 * l + 2)))), some (vi b), some (vi d), some (vi 4), some (vi 2), v8], [vi (k : Int), vr 135, vr 135])) (S' := MS I J cc ss) 5 rfl ?_
  refine ev_cv rfl rfl rfl ⟨Nat.le_of_ble_eq_true rfl, Nat.le_of_ble_eq_true rfl⟩ (sp_pixelsOf_r X _ _ _ _ k hg hws (by omega)) ?_
  show Ev X k_X9_bestExtra (114, [some (vr 135), some (vi (k : Int)), some (vi (l : Int)), some (vi (mwF g (g (2 * l + 1)) (g (2 * l + 2)))), some (vi b), some (vi d), some (vi 4), some (vi 2), v8], [vi (g (2 * k + 1)), vr 135]) (MS I J cc ss) _
  refine ev_n (fr' := (116, [some (vr 135), some (vi (k : Int)), some (vi (l : Int)), some (vi (mwF g (g (2 * l + 1)) (g (2 * l + 2)))), some (vi b), some (vi d), some (vi 4), some (vi 2), v8], [vi 2, vi (g (2 * k + 1)), vr 135])) (S' := MS I J cc ss) 1 rfl ?_
  refine ev_cz rfl rfl rfl ⟨Nat.le_of_ble_eq_true rfl, Nat.le_of_ble_eq_true rfl⟩ (sp_rmeanWeight X _ _ _ _ (g (2 * k + 1)) 2 hg hwp hwi (by omega) (by omega) (by omega)) (fun zI1 I1 J q2 => ?_)
  obtain ⟨rfl, rI1, hzI1⟩ := q2
  show Ev X k_X9_bestExtra (119, [some (vr 135), some (vi (k : Int)), some (vi (l : Int)), some (vi (mwF g (g (2 * l + 1)) (g (2 * l + 2)))), some (vi b), some (vi d), some (vi 4), some (vi 2), v8], [vi zI1]) (MS I1 J cc ss) _
  rw [hzI1]
  have hF := hF.trans rI1
  have := mwF_rng (g := g) (P := (g (2 * k + 1))) (e := 2) hwi (by omega)
  refine ev_n (fr' := (120, [some (vr 135), some (vi (k : Int)), some (vi (l : Int)), some (vi (mwF g (g (2 * l + 1)) (g (2 * l + 2)))), some (vi b), some (vi d), some (vi 4), some (vi 2), v8], [vi (mwF g (g (2 * l + 1)) (g (2 * l + 2))), vi (mwF g (g (2 * k + 1)) 2)])) (S' := MS I1 J cc ss) 1 rfl ?_
  refine ev_sub (z := (mwF g (g (2 * k + 1)) 2) - (mwF g (g (2 * l + 1)) (g (2 * l + 2)))) rfl (by omega) (by omega) (by omega) ?_
  show Ev X k_X9_bestExtra (121, [some (vr 135), some (vi (k : Int)), some (vi (l : Int)), some (vi (mwF g (g (2 * l + 1)) (g (2 * l + 2)))), some (vi b), some (vi d), some (vi 4), some (vi 2), v8], [vi ((mwF g (g (2 * k + 1)) 2) - (mwF g (g (2 * l + 1)) (g (2 * l + 2))))]) (MS I1 J cc ss) _
  refine ev_n (fr' := (125, [some (vr 135), some (vi (k : Int)), some (vi (l : Int)), some (vi (mwF g (g (2 * l + 1)) (g (2 * l + 2)))), some (vi b), some (vi d), some (vi 4), some (vi 2), some (vi ((mwF g (g (2 * k + 1)) 2) - (mwF g (g (2 * l + 1)) (g (2 * l + 2)))))], [vi ((mwF g (g (2 * k + 1)) 2) - (mwF g (g (2 * l + 1)) (g (2 * l + 2))))])) (S' := MS I1 J cc ss) 2 rfl ?_
  refine ev_if (c := .ge) (off := 9) rfl (by decide) (fun (g1 : 0 ≤ (mwF g (g (2 * k + 1)) 2) - (mwF g (g (2 * l + 1)) (g (2 * l + 2)))) => ?_) (fun (g1 : ¬ (0 ≤ (mwF g (g (2 * k + 1)) 2) - (mwF g (g (2 * l + 1)) (g (2 * l + 2))))) => ?_)
  · show Ev X k_X9_bestExtra (134, [some (vr 135), some (vi (k : Int)), some (vi (l : Int)), some (vi (mwF g (g (2 * l + 1)) (g (2 * l + 2)))), some (vi b), some (vi d), some (vi 4), some (vi 2), some (vi ((mwF g (g (2 * k + 1)) 2) - (mwF g (g (2 * l + 1)) (g (2 * l + 2)))))], []) (MS I1 J cc ss) _
    refine ev_n (fr' := (142, [some (vr 135), some (vi (k : Int)), some (vi (l : Int)), some (vi (mwF g (g (2 * l + 1)) (g (2 * l + 2)))), some (vi b), some (vi d), some (vi 4), some (vi 2), some (vi ((mwF g (g (2 * k + 1)) 2) - (mwF g (g (2 * l + 1)) (g (2 * l + 2)))))], [vi d, vi ((mwF g (g (2 * k + 1)) 2) - (mwF g (g (2 * l + 1)) (g (2 * l + 2))))])) (S' := MS I1 J cc ss) 4 rfl ?_
    refine ev_ic (c := .lt) (off := 6) rfl (by decide) (fun (g2 : (mwF g (g (2 * k + 1)) 2) - (mwF g (g (2 * l + 1)) (g (2 * l + 2))) < d) => ?_) (fun (g2 : ¬ ((mwF g (g (2 * k + 1)) 2) - (mwF g (g (2 * l + 1)) (g (2 * l + 2))) < d)) => ?_)
    · show Ev X k_X9_bestExtra (148, [some (vr 135), some (vi (k : Int)), some (vi (l : Int)), some (vi (mwF g (g (2 * l + 1)) (g (2 * l + 2)))), some (vi b), some (vi d), some (vi 4), some (vi 2), some (vi ((mwF g (g (2 * k + 1)) 2) - (mwF g (g (2 * l + 1)) (g (2 * l + 2)))))], []) (MS I1 J cc ss) _
      refine ev_n (fr' := (79, [some (vr 135), some (vi (k : Int)), some (vi (l : Int)), some (vi (mwF g (g (2 * l + 1)) (g (2 * l + 2)))), some (vi 2), some (vi ((mwF g (g (2 * k + 1)) 2) - (mwF g (g (2 * l + 1)) (g (2 * l + 2))))), some (vi 5), some (vi 2), some (vi ((mwF g (g (2 * k + 1)) 2) - (mwF g (g (2 * l + 1)) (g (2 * l + 2)))))], [])) (S' := MS I1 J cc ss) 6 rfl ?_
      have hst : beF (mwF g (g (2 * k + 1))) (mwF g (g (2 * l + 1)) (g (2 * l + 2))) 1024 5 = (2, absF (mwF g (g (2 * k + 1)) 2 - (mwF g (g (2 * l + 1)) (g (2 * l + 2))))) := if_pos (show absF (mwF g (g (2 * k + 1)) 2 - (mwF g (g (2 * l + 1)) (g (2 * l + 2)))) < (beF (mwF g (g (2 * k + 1))) (mwF g (g (2 * l + 1)) (g (2 * l + 2))) 1024 4).2 by rw [← hd]; unfold absF; split <;> omega)
      exact lp_rbe5 X _ _ cc ss I0 k l hg hws hwp hwi hk hl hn0 _ _ _ _ (by rw [hst]) (by rw [hst]; show _ = absF (mwF g (g (2 * k + 1)) 2 - (mwF g (g (2 * l + 1)) (g (2 * l + 2)))); unfold absF; split <;> omega) hF
    · show Ev X k_X9_bestExtra (145, [some (vr 135), some (vi (k : Int)), some (vi (l : Int)), some (vi (mwF g (g (2 * l + 1)) (g (2 * l + 2)))), some (vi b), some (vi d), some (vi 4), some (vi 2), some (vi ((mwF g (g (2 * k + 1)) 2) - (mwF g (g (2 * l + 1)) (g (2 * l + 2)))))], []) (MS I1 J cc ss) _
      refine ev_n (fr' := (79, [some (vr 135), some (vi (k : Int)), some (vi (l : Int)), some (vi (mwF g (g (2 * l + 1)) (g (2 * l + 2)))), some (vi b), some (vi d), some (vi 5), some (vi 2), some (vi ((mwF g (g (2 * k + 1)) 2) - (mwF g (g (2 * l + 1)) (g (2 * l + 2)))))], [])) (S' := MS I1 J cc ss) 3 rfl ?_
      have hst : beF (mwF g (g (2 * k + 1))) (mwF g (g (2 * l + 1)) (g (2 * l + 2))) 1024 5 = beF (mwF g (g (2 * k + 1))) (mwF g (g (2 * l + 1)) (g (2 * l + 2))) 1024 4 := if_neg (show ¬ absF (mwF g (g (2 * k + 1)) 2 - (mwF g (g (2 * l + 1)) (g (2 * l + 2)))) < (beF (mwF g (g (2 * k + 1))) (mwF g (g (2 * l + 1)) (g (2 * l + 2))) 1024 4).2 by rw [← hd]; unfold absF; split <;> omega)
      exact lp_rbe5 X _ _ cc ss I0 k l hg hws hwp hwi hk hl hn0 _ _ _ _ (by rw [hst]; exact hb) (by rw [hst]; exact hd) hF
  · show Ev X k_X9_bestExtra (128, [some (vr 135), some (vi (k : Int)), some (vi (l : Int)), some (vi (mwF g (g (2 * l + 1)) (g (2 * l + 2)))), some (vi b), some (vi d), some (vi 4), some (vi 2), some (vi ((mwF g (g (2 * k + 1)) 2) - (mwF g (g (2 * l + 1)) (g (2 * l + 2)))))], []) (MS I1 J cc ss) _
    refine ev_n (fr' := (130, [some (vr 135), some (vi (k : Int)), some (vi (l : Int)), some (vi (mwF g (g (2 * l + 1)) (g (2 * l + 2)))), some (vi b), some (vi d), some (vi 4), some (vi 2), some (vi ((mwF g (g (2 * k + 1)) 2) - (mwF g (g (2 * l + 1)) (g (2 * l + 2)))))], [vi ((mwF g (g (2 * k + 1)) 2) - (mwF g (g (2 * l + 1)) (g (2 * l + 2))))])) (S' := MS I1 J cc ss) 1 rfl ?_
    refine ev_neg (z := (mwF g (g (2 * l + 1)) (g (2 * l + 2))) - (mwF g (g (2 * k + 1)) 2)) rfl (by omega) (by omega) (by omega) ?_
    show Ev X k_X9_bestExtra (131, [some (vr 135), some (vi (k : Int)), some (vi (l : Int)), some (vi (mwF g (g (2 * l + 1)) (g (2 * l + 2)))), some (vi b), some (vi d), some (vi 4), some (vi 2), some (vi ((mwF g (g (2 * k + 1)) 2) - (mwF g (g (2 * l + 1)) (g (2 * l + 2)))))], [vi ((mwF g (g (2 * l + 1)) (g (2 * l + 2))) - (mwF g (g (2 * k + 1)) 2))]) (MS I1 J cc ss) _
    refine ev_n (fr' := (142, [some (vr 135), some (vi (k : Int)), some (vi (l : Int)), some (vi (mwF g (g (2 * l + 1)) (g (2 * l + 2)))), some (vi b), some (vi d), some (vi 4), some (vi 2), some (vi ((mwF g (g (2 * l + 1)) (g (2 * l + 2))) - (mwF g (g (2 * k + 1)) 2)))], [vi d, vi ((mwF g (g (2 * l + 1)) (g (2 * l + 2))) - (mwF g (g (2 * k + 1)) 2))])) (S' := MS I1 J cc ss) 4 rfl ?_
    refine ev_ic (c := .lt) (off := 6) rfl (by decide) (fun (g3 : (mwF g (g (2 * l + 1)) (g (2 * l + 2))) - (mwF g (g (2 * k + 1)) 2) < d) => ?_) (fun (g3 : ¬ ((mwF g (g (2 * l + 1)) (g (2 * l + 2))) - (mwF g (g (2 * k + 1)) 2) < d)) => ?_)
    · show Ev X k_X9_bestExtra (148, [some (vr 135), some (vi (k : Int)), some (vi (l : Int)), some (vi (mwF g (g (2 * l + 1)) (g (2 * l + 2)))), some (vi b), some (vi d), some (vi 4), some (vi 2), some (vi ((mwF g (g (2 * l + 1)) (g (2 * l + 2))) - (mwF g (g (2 * k + 1)) 2)))], []) (MS I1 J cc ss) _
      refine ev_n (fr' := (79, [some (vr 135), some (vi (k : Int)), some (vi (l : Int)), some (vi (mwF g (g (2 * l + 1)) (g (2 * l + 2)))), some (vi 2), some (vi ((mwF g (g (2 * l + 1)) (g (2 * l + 2))) - (mwF g (g (2 * k + 1)) 2))), some (vi 5), some (vi 2), some (vi ((mwF g (g (2 * l + 1)) (g (2 * l + 2))) - (mwF g (g (2 * k + 1)) 2)))], [])) (S' := MS I1 J cc ss) 6 rfl ?_
      have hst : beF (mwF g (g (2 * k + 1))) (mwF g (g (2 * l + 1)) (g (2 * l + 2))) 1024 5 = (2, absF (mwF g (g (2 * k + 1)) 2 - (mwF g (g (2 * l + 1)) (g (2 * l + 2))))) := if_pos (show absF (mwF g (g (2 * k + 1)) 2 - (mwF g (g (2 * l + 1)) (g (2 * l + 2)))) < (beF (mwF g (g (2 * k + 1))) (mwF g (g (2 * l + 1)) (g (2 * l + 2))) 1024 4).2 by rw [← hd]; unfold absF; split <;> omega)
      exact lp_rbe5 X _ _ cc ss I0 k l hg hws hwp hwi hk hl hn0 _ _ _ _ (by rw [hst]) (by rw [hst]; show _ = absF (mwF g (g (2 * k + 1)) 2 - (mwF g (g (2 * l + 1)) (g (2 * l + 2)))); unfold absF; split <;> omega) hF
    · show Ev X k_X9_bestExtra (145, [some (vr 135), some (vi (k : Int)), some (vi (l : Int)), some (vi (mwF g (g (2 * l + 1)) (g (2 * l + 2)))), some (vi b), some (vi d), some (vi 4), some (vi 2), some (vi ((mwF g (g (2 * l + 1)) (g (2 * l + 2))) - (mwF g (g (2 * k + 1)) 2)))], []) (MS I1 J cc ss) _
      refine ev_n (fr' := (79, [some (vr 135), some (vi (k : Int)), some (vi (l : Int)), some (vi (mwF g (g (2 * l + 1)) (g (2 * l + 2)))), some (vi b), some (vi d), some (vi 5), some (vi 2), some (vi ((mwF g (g (2 * l + 1)) (g (2 * l + 2))) - (mwF g (g (2 * k + 1)) 2)))], [])) (S' := MS I1 J cc ss) 3 rfl ?_
      have hst : beF (mwF g (g (2 * k + 1))) (mwF g (g (2 * l + 1)) (g (2 * l + 2))) 1024 5 = beF (mwF g (g (2 * k + 1))) (mwF g (g (2 * l + 1)) (g (2 * l + 2))) 1024 4 := if_neg (show ¬ absF (mwF g (g (2 * k + 1)) 2 - (mwF g (g (2 * l + 1)) (g (2 * l + 2)))) < (beF (mwF g (g (2 * k + 1))) (mwF g (g (2 * l + 1)) (g (2 * l + 2))) 1024 4).2 by rw [← hd]; unfold absF; split <;> omega)
      exact lp_rbe5 X _ _ cc ss I0 k l hg hws hwp hwi hk hl hn0 _ _ _ _ (by rw [hst]; exact hb) (by rw [hst]; exact hd) hF
theorem lp_rbe3 (X : AX) (I J : Nat → Nat → Int) (cc ss : Nat) {g : F1} (I0 : F2) (k l : Nat) (hg : J 136 = g) (hws : WS g) (hwp : WP g) (hwi : WI g) (hk : (k : Int) < g 0) (hl : g 0 = (l : Int) + 1) (hn0 : g 308 ≠ 0) (b d : Int) (v7 v8 : Option AV) (hb : b = (beF (mwF g (g (2 * k + 1))) (mwF g (g (2 * l + 1)) (g (2 * l + 2))) 1024 3).1) (hd : d = (beF (mwF g (g (2 * k + 1))) (mwF g (g (2 * l + 1)) (g (2 * l + 2))) 1024 3).2) (hF : scrM I0 I) : Ev X k_X9_bestExtra (79, [some (vr 135), some (vi (k : Int)), some (vi (l : Int)), some (vi (mwF g (g (2 * l + 1)) (g (2 * l + 2)))), some (vi b), some (vi d), some (vi 3), v7, v8], []) (MS I J cc ss) (PV cc ss (some (vi (beF (mwF g (g (2 * k + 1))) (mwF g (g (2 * l + 1)) (g (2 * l + 2))) 1024 5).1)) (fun I' J' => J' = J ∧ scrM I0 I')) := by
  have q0 := hws.1
  have q1 := hws.2.1
  have q2 := hwp.1
  have q3 := hwp.2.1
  have q4 := hwi.1
  have q5 := hwi.2.1
  have hr := hws.2.2.1 k hk
  have hr2 := hws.2.2.1 l (by omega)
  have hml := mwF_rng (g := g) (P := g (2 * l + 1)) (e := g (2 * l + 2)) hwi (by omega)
  refine ev_n (fr' := (89, [some (vr 135), some (vi (k : Int)), some (vi (l : Int)), some (vi (mwF g (g (2 * l + 1)) (g (2 * l + 2)))), some (vi b), some (vi d), some (vi 3), v7, v8], [vi (opI fRem 3 2)])) (S' := MS I J cc ss) 6 rfl ?_
  refine ev_eqi (show opI fRem 3 2 = 1 by decide) ?_
  show Ev X k_X9_bestExtra (89, [some (vr 135), some (vi (k : Int)), some (vi (l : Int)), some (vi (mwF g (g (2 * l + 1)) (g (2 * l + 2)))), some (vi b), some (vi d), some (vi 3), v7, v8], [vi 1]) (MS I J cc ss) _
  refine ev_n (fr' := (106, [some (vr 135), some (vi (k : Int)), some (vi (l : Int)), some (vi (mwF g (g (2 * l + 1)) (g (2 * l + 2)))), some (vi b), some (vi d), some (vi 3), v7, v8], [vi (opI (· / ·) (-4) 2)])) (S' := MS I J cc ss) 7 rfl ?_
  refine ev_eqi (show opI (· / ·) (-4) 2 = (-2) by decide) ?_
  show Ev X k_X9_bestExtra (106, [some (vr 135), some (vi (k : Int)), some (vi (l : Int)), some (vi (mwF g (g (2 * l + 1)) (g (2 * l + 2)))), some (vi b), some (vi d), some (vi 3), v7, v8], [vi (-2)]) (MS I J cc ss) _
  refine ev_n (fr' := (111, [some (vr 135), some (vi (k : Int)), some (vi (l : Int)), some (vi (mwF g (g (2 * l + 1)) (g (2 * l + 2)))), some (vi b), some (vi d), some (vi 3), some (vi (-2)), v8], [vi (k : Int), vr 135, vr 135])) (S' := MS I J cc ss) 4 rfl ?_
  refine ev_cv rfl rfl rfl ⟨Nat.le_of_ble_eq_true rfl, Nat.le_of_ble_eq_true rfl⟩ (sp_pixelsOf_r X _ _ _ _ k hg hws (by omega)) ?_
  show Ev X k_X9_bestExtra (114, [some (vr 135), some (vi (k : Int)), some (vi (l : Int)), some (vi (mwF g (g (2 * l + 1)) (g (2 * l + 2)))), some (vi b), some (vi d), some (vi 3), some (vi (-2)), v8], [vi (g (2 * k + 1)), vr 135]) (MS I J cc ss) _
  refine ev_n (fr' := (116, [some (vr 135), some (vi (k : Int)), some (vi (l : Int)), some (vi (mwF g (g (2 * l + 1)) (g (2 * l + 2)))), some (vi b), some (vi d), some (vi 3), some (vi (-2)), v8], [vi (-2), vi (g (2 * k + 1)), vr 135])) (S' := MS I J cc ss) 1 rfl ?_
  refine ev_cz rfl rfl rfl ⟨Nat.le_of_ble_eq_true rfl, Nat.le_of_ble_eq_true rfl⟩ (sp_rmeanWeight X _ _ _ _ (g (2 * k + 1)) (-2) hg hwp hwi (by omega) (by omega) (by omega)) (fun zI1 I1 J q2 => ?_)
  obtain ⟨rfl, rI1, hzI1⟩ := q2
  show Ev X k_X9_bestExtra (119, [some (vr 135), some (vi (k : Int)), some (vi (l : Int)), some (vi (mwF g (g (2 * l + 1)) (g (2 * l + 2)))), some (vi b), some (vi d), some (vi 3), some (vi (-2)), v8], [vi zI1]) (MS I1 J cc ss) _
  rw [hzI1]
  have hF := hF.trans rI1
  have := mwF_rng (g := g) (P := (g (2 * k + 1))) (e := -2) hwi (by omega)
  refine ev_n (fr' := (120, [some (vr 135), some (vi (k : Int)), some (vi (l : Int)), some (vi (mwF g (g (2 * l + 1)) (g (2 * l + 2)))), some (vi b), some (vi d), some (vi 3), some (vi (-2)), v8], [vi (mwF g (g (2 * l + 1)) (g (2 * l + 2))), vi (mwF g (g (2 * k + 1)) (-2))])) (S' := MS I1 J cc ss) 1 rfl ?_
  refine ev_sub (z := (mwF g (g (2 * k + 1)) (-2)) - (mwF g (g (2 * l + 1)) (g (2 * l + 2)))) rfl (by omega) (by omega) (by omega) ?_
  show Ev X k_X9_bestExtra (121, [some (vr 135), some (vi (k : Int)), some (vi (l : Int)), some (vi (mwF g (g (2 * l + 1)) (g (2 * l + 2)))), some (vi b), some (vi d), some (vi 3), some (vi (-2)), v8], [vi ((mwF g (g (2 * k + 1)) (-2)) - (mwF g (g (2 * l + 1)) (g (2 * l + 2))))]) (MS I1 J cc ss) _
  refine ev_n (fr' := (125, [some (vr 135), some (vi (k : Int)), some (vi (l : Int)), some (vi (mwF g (g (2 * l + 1)) (g (2 * l + 2)))), some (vi b), some (vi d), some (vi 3), some (vi (-2)), some (vi ((mwF g (g (2 * k + 1)) (-2)) - (mwF g (g (2 * l + 1)) (g (2 * l + 2)))))], [vi ((mwF g (g (2 * k + 1)) (-2)) - (mwF g (g (2 * l + 1)) (g (2 * l + 2))))])) (S' := MS I1 J cc ss) 2 rfl ?_
  refine ev_if (c := .ge) (off := 9) rfl (by decide) (fun (g1 : 0 ≤ (mwF g (g (2 * k + 1)) (-2)) - (mwF g (g (2 * l + 1)) (g (2 * l + 2)))) => ?_) (fun (g1 : ¬ (0 ≤ (mwF g (g (2 * k + 1)) (-2)) - (mwF g (g (2 * l + 1)) (g (2 * l + 2))))) => ?_)
  · show Ev X k_X9_bestExtra (134, [some (vr 135), some (vi (k : Int)), some (vi (l : Int)), some (vi (mwF g (g (2 * l + 1)) (g (2 * l + 2)))), some (vi b), some (vi d), some (vi 3), some (vi (-2)), some (vi ((mwF g (g (2 * k + 1)) (-2)) - (mwF g (g (2 * l + 1)) (g (2 * l + 2)))))], []) (MS I1 J cc ss) _
    refine ev_n (fr' := (142, [some (vr 135), some (vi (k : Int)), some (vi (l : Int)), some (vi (mwF g (g (2 * l + 1)) (g (2 * l + 2)))), some (vi b), some (vi d), some (vi 3), some (vi (-2)), some (vi ((mwF g (g (2 * k + 1)) (-2)) - (mwF g (g (2 * l + 1)) (g (2 * l + 2)))))], [vi d, vi ((mwF g (g (2 * k + 1)) (-2)) - (mwF g (g (2 * l + 1)) (g (2 * l + 2))))])) (S' := MS I1 J cc ss) 4 rfl ?_
    refine ev_ic (c := .lt) (off := 6) rfl (by decide) (fun (g2 : (mwF g (g (2 * k + 1)) (-2)) - (mwF g (g (2 * l + 1)) (g (2 * l + 2))) < d) => ?_) (fun (g2 : ¬ ((mwF g (g (2 * k + 1)) (-2)) - (mwF g (g (2 * l + 1)) (g (2 * l + 2))) < d)) => ?_)
    · show Ev X k_X9_bestExtra (148, [some (vr 135), some (vi (k : Int)), some (vi (l : Int)), some (vi (mwF g (g (2 * l + 1)) (g (2 * l + 2)))), some (vi b), some (vi d), some (vi 3), some (vi (-2)), some (vi ((mwF g (g (2 * k + 1)) (-2)) - (mwF g (g (2 * l + 1)) (g (2 * l + 2)))))], []) (MS I1 J cc ss) _
      refine ev_n (fr' := (79, [some (vr 135), some (vi (k : Int)), some (vi (l : Int)), some (vi (mwF g (g (2 * l + 1)) (g (2 * l + 2)))), some (vi (-2)), some (vi ((mwF g (g (2 * k + 1)) (-2)) - (mwF g (g (2 * l + 1)) (g (2 * l + 2))))), some (vi 4), some (vi (-2)), some (vi ((mwF g (g (2 * k + 1)) (-2)) - (mwF g (g (2 * l + 1)) (g (2 * l + 2)))))], [])) (S' := MS I1 J cc ss) 6 rfl ?_
      have hst : beF (mwF g (g (2 * k + 1))) (mwF g (g (2 * l + 1)) (g (2 * l + 2))) 1024 4 = ((-2), absF (mwF g (g (2 * k + 1)) (-2) - (mwF g (g (2 * l + 1)) (g (2 * l + 2))))) := if_pos (show absF (mwF g (g (2 * k + 1)) (-2) - (mwF g (g (2 * l + 1)) (g (2 * l + 2)))) < (beF (mwF g (g (2 * k + 1))) (mwF g (g (2 * l + 1)) (g (2 * l + 2))) 1024 3).2 by rw [← hd]; unfold absF; split <;> omega)
      exact lp_rbe4 X _ _ cc ss I0 k l hg hws hwp hwi hk hl hn0 _ _ _ _ (by rw [hst]) (by rw [hst]; show _ = absF (mwF g (g (2 * k + 1)) (-2) - (mwF g (g (2 * l + 1)) (g (2 * l + 2)))); unfold absF; split <;> omega) hF
    · show Ev X k_X9_bestExtra (145, [some (vr 135), some (vi (k : Int)), some (vi (l : Int)), some (vi (mwF g (g (2 * l + 1)) (g (2 * l + 2)))), some (vi b), some (vi d), some (vi 3), some (vi (-2)), some (vi ((mwF g (g (2 * k + 1)) (-2)) - (mwF g (g (2 * l + 1)) (g (2 * l + 2)))))], []) (MS I1 J cc ss) _
      refine ev_n (fr' := (79, [some (vr 135), some (vi (k : Int)), some (vi (l : Int)), some (vi (mwF g (g (2 * l + 1)) (g (2 * l + 2)))), some (vi b), some (vi d), some (vi 4), some (vi (-2)), some (vi ((mwF g (g (2 * k + 1)) (-2)) - (mwF g (g (2 * l + 1)) (g (2 * l + 2)))))], [])) (S' := MS I1 J cc ss) 3 rfl ?_
      have hst : beF (mwF g (g (2 * k + 1))) (mwF g (g (2 * l + 1)) (g (2 * l + 2))) 1024 4 = beF (mwF g (g (2 * k + 1))) (mwF g (g (2 * l + 1)) (g (2 * l + 2))) 1024 3 := if_neg (show ¬ absF (mwF g (g (2 * k + 1)) (-2) - (mwF g (g (2 * l + 1)) (g (2 * l + 2)))) < (beF (mwF g (g (2 * k + 1))) (mwF g (g (2 * l + 1)) (g (2 * l + 2))) 1024 3).2 by rw [← hd]; unfold absF; split <;> omega)
      exact lp_rbe4 X _ _ cc ss I0 k l hg hws hwp hwi hk hl hn0 _ _ _ _ (by rw [hst]; exact hb) (by rw [hst]; exact hd) hF
  · show Ev X k_X9_bestExtra (128, [some (vr 135), some (vi (k : Int)), some (vi (l : Int)), some (vi (mwF g (g (2 * l + 1)) (g (2 * l + 2)))), some (vi b), some (vi d), some (vi 3), some (vi (-2)), some (vi ((mwF g (g (2 * k + 1)) (-2)) - (mwF g (g (2 * l + 1)) (g (2 * l + 2)))))], []) (MS I1 J cc ss) _
    refine ev_n (fr' := (130, [some (vr 135), some (vi (k : Int)), some (vi (l : Int)), some (vi (mwF g (g (2 * l + 1)) (g (2 * l + 2)))), some (vi b), some (vi d), some (vi 3), some (vi (-2)), some (vi ((mwF g (g (2 * k + 1)) (-2)) - (mwF g (g (2 * l + 1)) (g (2 * l + 2)))))], [vi ((mwF g (g (2 * k + 1)) (-2)) - (mwF g (g (2 * l + 1)) (g (2 * l + 2))))])) (S' := MS I1 J cc ss) 1 rfl ?_
    refine ev_neg (z := (mwF g (g (2 * l + 1)) (g (2 * l + 2))) - (mwF g (g (2 * k + 1)) (-2))) rfl (by omega) (by omega) (by omega) ?_
    show Ev X k_X9_bestExtra (131, [some (vr 135), some (vi (k : Int)), some (vi (l : Int)), some (vi (mwF g (g (2 * l + 1)) (g (2 * l + 2)))), some (vi b), some (vi d), some (vi 3), some (vi (-2)), some (vi ((mwF g (g (2 * k + 1)) (-2)) - (mwF g (g (2 * l + 1)) (g (2 * l + 2)))))], [vi ((mwF g (g (2 * l + 1)) (g (2 * l + 2))) - (mwF g (g (2 * k + 1)) (-2)))]) (MS I1 J cc ss) _
    refine ev_n (fr' := (142, [some (vr 135), some (vi (k : Int)), some (vi (l : Int)), some (vi (mwF g (g (2 * l + 1)) (g (2 * l + 2)))), some (vi b), some (vi d), some (vi 3), some (vi (-2)), some (vi ((mwF g (g (2 * l + 1)) (g (2 * l + 2))) - (mwF g (g (2 * k + 1)) (-2))))], [vi d, vi ((mwF g (g (2 * l + 1)) (g (2 * l + 2))) - (mwF g (g (2 * k + 1)) (-2)))])) (S' := MS I1 J cc ss) 4 rfl ?_
    refine ev_ic (c := .lt) (off := 6) rfl (by decide) (fun (g3 : (mwF g (g (2 * l + 1)) (g (2 * l + 2))) - (mwF g (g (2 * k + 1)) (-2)) < d) => ?_) (fun (g3 : ¬ ((mwF g (g (2 * l + 1)) (g (2 * l + 2))) - (mwF g (g (2 * k + 1)) (-2)) < d)) => ?_)
    · show Ev X k_X9_bestExtra (148, [some (vr 135), some (vi (k : Int)), some (vi (l : Int)), some (vi (mwF g (g (2 * l + 1)) (g (2 * l + 2)))), some (vi b), some (vi d), some (vi 3), some (vi (-2)), some (vi ((mwF g (g (2 * l + 1)) (g (2 * l + 2))) - (mwF g (g (2 * k + 1)) (-2))))], []) (MS I1 J cc ss) _
      refine ev_n (fr' := (79, [some (vr 135), some (vi (k : Int)), some (vi (l : Int)), some (vi (mwF g (g (2 * l + 1)) (g (2 * l + 2)))), some (vi (-2)), some (vi ((mwF g (g (2 * l + 1)) (g (2 * l + 2))) - (mwF g (g (2 * k + 1)) (-2)))), some (vi 4), some (vi (-2)), some (vi ((mwF g (g (2 * l + 1)) (g (2 * l + 2))) - (mwF g (g (2 * k + 1)) (-2))))], [])) (S' := MS I1 J cc ss) 6 rfl ?_
      have hst : beF (mwF g (g (2 * k + 1))) (mwF g (g (2 * l + 1)) (g (2 * l + 2))) 1024 4 = ((-2), absF (mwF g (g (2 * k + 1)) (-2) - (mwF g (g (2 * l + 1)) (g (2 * l + 2))))) := if_pos (show absF (mwF g (g (2 * k + 1)) (-2) - (mwF g (g (2 * l + 1)) (g (2 * l + 2)))) < (beF (mwF g (g (2 * k + 1))) (mwF g (g (2 * l + 1)) (g (2 * l + 2))) 1024 3).2 by rw [← hd]; unfold absF; split <;> omega)
      exact lp_rbe4 X _ _ cc ss I0 k l hg hws hwp hwi hk hl hn0 _ _ _ _ (by rw [hst]) (by rw [hst]; show _ = absF (mwF g (g (2 * k + 1)) (-2) - (mwF g (g (2 * l + 1)) (g (2 * l + 2)))); unfold absF; split <;> omega) hF
    · show Ev X k_X9_bestExtra (145, [some (vr 135), some (vi (k : Int)), some (vi (l : Int)), some (vi (mwF g (g (2 * l + 1)) (g (2 * l + 2)))), some (vi b), some (vi d), some (vi 3), some (vi (-2)), some (vi ((mwF g (g (2 * l + 1)) (g (2 * l + 2))) - (mwF g (g (2 * k + 1)) (-2))))], []) (MS I1 J cc ss) _
      refine ev_n (fr' := (79, [some (vr 135), some (vi (k : Int)), some (vi (l : Int)), some (vi (mwF g (g (2 * l + 1)) (g (2 * l + 2)))), some (vi b), some (vi d), some (vi 4), some (vi (-2)), some (vi ((mwF g (g (2 * l + 1)) (g (2 * l + 2))) - (mwF g (g (2 * k + 1)) (-2))))], [])) (S' := MS I1 J cc ss) 3 rfl ?_
      have hst : beF (mwF g (g (2 * k + 1))) (mwF g (g (2 * l + 1)) (g (2 * l + 2))) 1024 4 = beF (mwF g (g (2 * k + 1))) (mwF g (g (2 * l + 1)) (g (2 * l + 2))) 1024 3 := if_neg (show ¬ absF (mwF g (g (2 * k + 1)) (-2) - (mwF g (g (2 * l + 1)) (g (2 * l + 2)))) < (beF (mwF g (g (2 * k + 1))) (mwF g (g (2 * l + 1)) (g (2 * l + 2))) 1024 3).2 by rw [← hd]; unfold absF; split <;> omega)
      exact lp_rbe4 X _ _ cc ss I0 k l hg hws hwp hwi hk hl hn0 _ _ _ _ (by rw [hst]; exact hb) (by rw [hst]; exact hd) hF
theorem lp_rbe2 (X : AX) (I J : Nat → Nat → Int) (cc ss : Nat) {g : F1} (I0 : F2) (k l : Nat) (hg : J 136 = g) (hws : WS g) (hwp : WP g) (hwi : WI g) (hk : (k : Int) < g 0) (hl : g 0 = (l : Int) + 1) (hn0 : g 308 ≠ 0) (b d : Int) (v7 v8 : Option AV) (hb : b = (beF (mwF g (g (2 * k + 1))) (mwF g (g (2 * l + 1)) (g (2 * l + 2))) 1024 2).1) (hd : d = (beF (mwF g (g (2 * k + 1))) (mwF g (g (2 * l + 1)) (g (2 * l + 2))) 1024 2).2) (hF : scrM I0 I) : Ev X k_X9_bestExtra (79, [some (vr 135), some (vi (k : Int)), some (vi (l : Int)), some (vi (mwF g (g (2 * l + 1)) (g (2 * l + 2)))), some (vi b), some (vi d), some (vi 2), v7, v8], []) (MS I J cc ss) (PV cc ss (some (vi (beF (mwF g (g (2 * k + 1))) (mwF g (g (2 * l + 1)) (g (2 * l + 2))) 1024 5).1)) (fun I' J' => J' = J ∧ scrM I0 I')) := by
  have q0 := hws.1
  have q1 := hws.2.1
  have q2 := hwp.1
  have q3 := hwp.2.1
  have q4 := hwi.1
  have q5 := hwi.2.1
  have hr := hws.2.2.1 k hk
  have hr2 := hws.2.2.1 l (by omega)
  have hml := mwF_rng (g := g) (P := g (2 * l + 1)) (e := g (2 * l + 2)) hwi (by omega)
  refine ev_n (fr' := (89, [some (vr 135), some (vi (k : Int)), some (vi (l : Int)), some (vi (mwF g (g (2 * l + 1)) (g (2 * l + 2)))), some (vi b), some (vi d), some (vi 2), v7, v8], [vi (opI fRem 2 2)])) (S' := MS I J cc ss) 6 rfl ?_
  refine ev_eqi (show opI fRem 2 2 = 0 by decide) ?_
  show Ev X k_X9_bestExtra (89, [some (vr 135), some (vi (k : Int)), some (vi (l : Int)), some (vi (mwF g (g (2 * l + 1)) (g (2 * l + 2)))), some (vi b), some (vi d), some (vi 2), v7, v8], [vi 0]) (MS I J cc ss) _
  refine ev_n (fr' := (96, [some (vr 135), some (vi (k : Int)), some (vi (l : Int)), some (vi (mwF g (g (2 * l + 1)) (g (2 * l + 2)))), some (vi b), some (vi d), some (vi 2), v7, v8], [vi (opI (· / ·) 2 2)])) (S' := MS I J cc ss) 4 rfl ?_
  refine ev_eqi (show opI (· / ·) 2 2 = 1 by decide) ?_
  show Ev X k_X9_bestExtra (96, [some (vr 135), some (vi (k : Int)), some (vi (l : Int)), some (vi (mwF g (g (2 * l + 1)) (g (2 * l + 2)))), some (vi b), some (vi d), some (vi 2), v7, v8], [vi 1]) (MS I J cc ss) _
  refine ev_n (fr' := (111, [some (vr 135), some (vi (k : Int)), some (vi (l : Int)), some (vi (mwF g (g (2 * l + 1)) (g (2 * l + 2)))), some (vi b), some (vi d), some (vi 2), some (vi 1), v8], [vi (k : Int), vr 135, vr 135])) (S' := MS I J cc ss) 5 rfl ?_
  refine ev_cv rfl rfl rfl ⟨Nat.le_of_ble_eq_true rfl, Nat.le_of_ble_eq_true rfl⟩ (sp_pixelsOf_r X _ _ _ _ k hg hws (by omega)) ?_
  show Ev X k_X9_bestExtra (114, [some (vr 135), some (vi (k : Int)), some (vi (l : Int)), some (vi (mwF g (g (2 * l + 1)) (g (2 * l + 2)))), some (vi b), some (vi d), some (vi 2), some (vi 1), v8], [vi (g (2 * k + 1)), vr 135]) (MS I J cc ss) _
  refine ev_n (fr' := (116, [some (vr 135), some (vi (k : Int)), some (vi (l : Int)), some (vi (mwF g (g (2 * l + 1)) (g (2 * l + 2)))), some (vi b), some (vi d), some (vi 2), some (vi 1), v8], [vi 1, vi (g (2 * k + 1)), vr 135])) (S' := MS I J cc ss) 1 rfl ?_
  refine ev_cz rfl rfl rfl ⟨Nat.le_of_ble_eq_true rfl, Nat.le_of_ble_eq_true rfl⟩ (sp_rmeanWeight X _ _ _ _ (g (2 * k + 1)) 1 hg hwp hwi (by omega) (by omega) (by omega)) (fun zI1 I1 J q2 => ?_)
  obtain ⟨rfl, rI1, hzI1⟩ := q2
  show Ev X k_X9_bestExtra (119, [some (vr 135), some (vi (k : Int)), some (vi (l : Int)), some (vi (mwF g (g (2 * l + 1)) (g (2 * l + 2)))), some (vi b), some (vi d), some (vi 2), some (vi 1), v8], [vi zI1]) (MS I1 J cc ss) _
  rw [hzI1]
  have hF := hF.trans rI1
  have := mwF_rng (g := g) (P := (g (2 * k + 1))) (e := 1) hwi (by omega)
  refine ev_n (fr' := (120, [some (vr 135), some (vi (k : Int)), some (vi (l : Int)), some (vi (mwF g (g (2 * l + 1)) (g (2 * l + 2)))), some (vi b), some (vi d), some (vi 2), some (vi 1), v8], [vi (mwF g (g (2 * l + 1)) (g (2 * l + 2))), vi (mwF g (g (2 * k + 1)) 1)])) (S' := MS I1 J cc ss) 1 rfl ?_
  refine ev_sub (z := (mwF g (g (2 * k + 1)) 1) - (mwF g (g (2 * l + 1)) (g (2 * l + 2)))) rfl (by omega) (by omega) (by omega) ?_
  show Ev X k_X9_bestExtra (121, [some (vr 135), some (vi (k : Int)), some (vi (l : Int)), some (vi (mwF g (g (2 * l + 1)) (g (2 * l + 2)))), some (vi b), some (vi d), some (vi 2), some (vi 1), v8], [vi ((mwF g (g (2 * k + 1)) 1) - (mwF g (g (2 * l + 1)) (g (2 * l + 2))))]) (MS I1 J cc ss) _
  refine ev_n (fr' := (125, [some (vr 135), some (vi (k : Int)), some (vi (l : Int)), some (vi (mwF g (g (2 * l + 1)) (g (2 * l + 2)))), some (vi b), some (vi d), some (vi 2), some (vi 1), some (vi ((mwF g (g (2 * k + 1)) 1) - (mwF g (g (2 * l + 1)) (g (2 * l + 2)))))], [vi ((mwF g (g (2 * k + 1)) 1) - (mwF g (g (2 * l + 1)) (g (2 * l + 2))))])) (S' := MS I1 J cc ss) 2 rfl ?_
  refine ev_if (c := .ge) (off := 9) rfl (by decide) (fun (g1 : 0 ≤ (mwF g (g (2 * k + 1)) 1) - (mwF g (g (2 * l + 1)) (g (2 * l + 2)))) => ?_) (fun (g1 : ¬ (0 ≤ (mwF g (g (2 * k + 1)) 1) - (mwF g (g (2 * l + 1)) (g (2 * l + 2))))) => ?_)
  · show Ev X k_X9_bestExtra (134, [some (vr 135), some (vi (k : Int)), some (vi (l : Int)), some (vi (mwF g (g (2 * l + 1)) (g (2 * l + 2)))), some (vi b), some (vi d), some (vi 2), some (vi 1), some (vi ((mwF g (g (2 * k + 1)) 1) - (mwF g (g (2 * l + 1)) (g (2 * l + 2)))))], []) (MS I1 J cc ss) _
    refine ev_n (fr' := (142, [some (vr 135), some (vi (k : Int)), some (vi (l : Int)), some (vi (mwF g (g (2 * l + 1)) (g (2 * l + 2)))), some (vi b), some (vi d), some (vi 2), some (vi 1), some (vi ((mwF g (g (2 * k + 1)) 1) - (mwF g (g (2 * l + 1)) (g (2 * l + 2)))))], [vi d, vi ((mwF g (g (2 * k + 1)) 1) - (mwF g (g (2 * l + 1)) (g (2 * l + 2))))])) (S' := MS I1 J cc ss) 4 rfl ?_
    refine ev_ic (c := .lt) (off := 6) rfl (by decide) (fun (g2 : (mwF g (g (2 * k + 1)) 1) - (mwF g (g (2 * l + 1)) (g (2 * l + 2))) < d) => ?_) (fun (g2 : ¬ ((mwF g (g (2 * k + 1)) 1) - (mwF g (g (2 * l + 1)) (g (2 * l + 2))) < d)) => ?_)
    · show Ev X k_X9_bestExtra (148, [some (vr 135), some (vi (k : Int)), some (vi (l : Int)), some (vi (mwF g (g (2 * l + 1)) (g (2 * l + 2)))), some (vi b), some (vi d), some (vi 2), some (vi 1), some (vi ((mwF g (g (2 * k + 1)) 1) - (mwF g (g (2 * l + 1)) (g (2 * l + 2)))))], []) (MS I1 J cc ss) _
      refine ev_n (fr' := (79, [some (vr 135), some (vi (k : Int)), some (vi (l : Int)), some (vi (mwF g (g (2 * l + 1)) (g (2 * l + 2)))), some (vi 1), some (vi ((mwF g (g (2 * k + 1)) 1) - (mwF g (g (2 * l + 1)) (g (2 * l + 2))))), some (vi 3), some (vi 1), some (vi ((mwF g (g (2 * k + 1)) 1) - (mwF g (g (2 * l + 1)) (g (2 * l + 2)))))], [])) (S' := MS I1 J cc ss) 6 rfl ?_
      have hst : beF (mwF g (g (2 * k + 1))) (mwF g (g (2 * l + 1)) (g (2 * l + 2))) 1024 3 = (1, absF (mwF g (g (2 * k + 1)) 1 - (mwF g (g (2 * l + 1)) (g (2 * l + 2))))) := if_pos (show absF (mwF g (g (2 * k + 1)) 1 - (mwF g (g (2 * l + 1)) (g (2 * l + 2)))) < (beF (mwF g (g (2 * k + 1))) (mwF g (g (2 * l + 1)) (g (2 * l + 2))) 1024 2).2 by rw [← hd]; unfold absF; split <;> omega)
      exact lp_rbe3 X _ _ cc ss I0 k l hg hws hwp hwi hk hl hn0 _ _ _ _ (by rw [hst]) (by rw [hst]; show _ = absF (mwF g (g (2 * k + 1)) 1 - (mwF g (g (2 * l + 1)) (g (2 * l + 2)))); unfold absF; split <;> omega) hF
    · show Ev X k_X9_bestExtra (145, [some (vr 135), some (vi (k : Int)), some (vi (l : Int)), some (vi (mwF g (g (2 * l + 1)) (g (2 * l + 2)))), some (vi b), some (vi d), some (vi 2), some (vi 1), some (vi ((mwF g (g (2 * k + 1)) 1) - (mwF g (g (2 * l + 1)) (g (2 * l + 2)))))], []) (MS I1 J cc ss) _
      refine ev_n (fr' := (79, [some (vr 135), some (vi (k : Int)), some (vi (l : Int)), some (vi (mwF g (g (2 * l + 1)) (g (2 * l + 2)))), some (vi b), some (vi d), some (vi 3), some (vi 1), some (vi ((mwF g (g (2 * k + 1)) 1) - (mwF g (g (2 * l + 1)) (g (2 * l + 2)))))], [])) (S' := MS I1 J cc ss) 3 rfl ?_
      have hst : beF (mwF g (g (2 * k + 1))) (mwF g (g (2 * l + 1)) (g (2 * l + 2))) 1024 3 = beF (mwF g (g (2 * k + 1))) (mwF g (g (2 * l + 1)) (g (2 * l + 2))) 1024 2 := if_neg (show ¬ absF (mwF g (g (2 * k + 1)) 1 - (mwF g (g (2 * l + 1)) (g (2 * l + 2)))) < (beF (mwF g (g (2 * k + 1))) (mwF g (g (2 * l + 1)) (g (2 * l + 2))) 1024 2).2 by rw [← hd]; unfold absF; split <;> omega)
      exact lp_rbe3 X _ _ cc ss I0 k l hg hws hwp hwi hk hl hn0 _ _ _ _ (by rw [hst]; exact hb) (by rw [hst]; exact hd) hF
  · show Ev X k_X9_bestExtra (128, [some (vr 135), some (vi (k : Int)), some (vi (l : Int)), some (vi (mwF g (g (2 * l + 1)) (g (2 * l + 2)))), some (vi b), some (vi d), some (vi 2), some (vi 1), some (vi ((mwF g (g (2 * k + 1)) 1) - (mwF g (g (2 * l + 1)) (g (2 * l + 2)))))], []) (MS I1 J cc ss) _
    refine ev_n (fr' := (130, [some (vr 135), some (vi (k : Int)), some (vi (l : Int)), some (vi (mwF g (g (2 * l + 1)) (g (2 * l + 2)))), some (vi b), some (vi d), some (vi 2), some (vi 1), some (vi ((mwF g (g (2 * k + 1)) 1) - (mwF g (g (2 * l + 1)) (g (2 * l + 2)))))], [vi ((mwF g (g (2 * k + 1)) 1) - (mwF g (g (2 * l + 1)) (g (2 * l + 2))))])) (S' := MS I1 J cc ss) 1 rfl ?_
    refine ev_neg (z := (mwF g (g (2 * l + 1)) (g (2 * l + 2))) - (mwF g (g (2 * k + 1)) 1)) rfl (by omega) (by omega) (by omega) ?_
    show Ev X k_X9_bestExtra (131, [some (vr 135), some (vi (k : Int)), some (vi (l : Int)), some (vi (mwF g (g (2 * l + 1)) (g (2 * l + 2)))), some (vi b), some (vi d), some (vi 2), some (vi 1), some (vi ((mwF g (g (2 * k + 1)) 1) - (mwF g (g (2 * l + 1)) (g (2 * l + 2)))))], [vi ((mwF g (g (2 * l + 1)) (g (2 * l + 2))) - (mwF g (g (2 * k + 1)) 1))]) (MS I1 J cc ss) _
    refine ev_n (fr' := (142, [some (vr 135), some (vi (k : Int)), some (vi (l : Int)), some (vi (mwF g (g (2 * l + 1)) (g (2 * l + 2)))), some (vi b), some (vi d), some (vi 2), some (vi 1), some (vi ((mwF g (g (2 * l + 1)) (g (2 * l + 2))) - (mwF g (g (2 * k + 1)) 1)))], [vi d, vi ((mwF g (g (2 * l + 1)) (g (2 * l + 2))) - (mwF g (g (2 * k + 1)) 1))])) (S' := MS I1 J cc ss) 4 rfl ?_
    refine ev_ic (c := .lt) (off := 6) rfl (by decide) (fun (g3 : (mwF g (g (2 * l + 1)) (g (2 * l + 2))) - (mwF g (g (2 * k + 1)) 1) < d) => ?_) (fun (g3 : ¬ ((mwF g (g (2 * l + 1)) (g (2 * l + 2))) - (mwF g (g (2 * k + 1)) 1) < d)) => ?_)
    · show Ev X k_X9_bestExtra (148, [some (vr 135), some (vi (k : Int)), some (vi (l : Int)), some (vi (mwF g (g (2 * l + 1)) (g (2 * l + 2)))), some (vi b), some (vi d), some (vi 2), some (vi 1), some (vi ((mwF g (g (2 * l + 1)) (g (2 * l + 2))) - (mwF g (g (2 * k + 1)) 1)))], []) (MS I1 J cc ss) _
      refine ev_n (fr' := (79, [some (vr 135), some (vi (k : Int)), some (vi (l : Int)), some (vi (mwF g (g (2 * l + 1)) (g (2 * l + 2)))), some (vi 1), some (vi ((mwF g (g (2 * l + 1)) (g (2 * l + 2))) - (mwF g (g (2 * k + 1)) 1))), some (vi 3), some (vi 1), some (vi ((mwF g (g (2 * l + 1)) (g (2 * l + 2))) - (mwF g (g (2 * k + 1)) 1)))], [])) (S' := MS I1 J cc ss) 6 rfl ?_
      have hst : beF (mwF g (g (2 * k + 1))) (mwF g (g (2 * l + 1)) (g (2 * l + 2))) 1024 3 = (1, absF (mwF g (g (2 * k + 1)) 1 - (mwF g (g (2 * l + 1)) (g (2 * l + 2))))) := if_pos (show absF (mwF g (g (2 * k + 1)) 1 - (mwF g (g (2 * l + 1)) (g (2 * l + 2)))) < (beF (mwF g (g (2 * k + 1))) (mwF g (g (2 * l + 1)) (g (2 * l + 2))) 1024 2).2 by rw [← hd]; unfold absF; split <;> omega)
      exact lp_rbe3 X _ _ cc ss I0 k l hg hws hwp hwi hk hl hn0 _ _ _ _ (by rw [hst]) (by rw [hst]; show _ = absF (mwF g (g (2 * k + 1)) 1 - (mwF g (g (2 * l + 1)) (g (2 * l + 2)))); unfold absF; split <;> omega) hF
    · show Ev X k_X9_bestExtra (145, [some (vr 135), some (vi (k : Int)), some (vi (l : Int)), some (vi (mwF g (g (2 * l + 1)) (g (2 * l + 2)))), some (vi b), some (vi d), some (vi 2), some (vi 1), some (vi ((mwF g (g (2 * l + 1)) (g (2 * l + 2))) - (mwF g (g (2 * k + 1)) 1)))], []) (MS I1 J cc ss) _
      refine ev_n (fr' := (79, [some (vr 135), some (vi (k : Int)), some (vi (l : Int)), some (vi (mwF g (g (2 * l + 1)) (g (2 * l + 2)))), some (vi b), some (vi d), some (vi 3), some (vi 1), some (vi ((mwF g (g (2 * l + 1)) (g (2 * l + 2))) - (mwF g (g (2 * k + 1)) 1)))], [])) (S' := MS I1 J cc ss) 3 rfl ?_
      have hst : beF (mwF g (g (2 * k + 1))) (mwF g (g (2 * l + 1)) (g (2 * l + 2))) 1024 3 = beF (mwF g (g (2 * k + 1))) (mwF g (g (2 * l + 1)) (g (2 * l + 2))) 1024 2 := if_neg (show ¬ absF (mwF g (g (2 * k + 1)) 1 - (mwF g (g (2 * l + 1)) (g (2 * l + 2)))) < (beF (mwF g (g (2 * k + 1))) (mwF g (g (2 * l + 1)) (g (2 * l + 2))) 1024 2).2 by rw [← hd]; unfold absF; split <;> omega)
      exact lp_rbe3 X _ _ cc ss I0 k l hg hws hwp hwi hk hl hn0 _ _ _ _ (by rw [hst]; exact hb) (by rw [hst]; exact hd) hF
theorem lp_rbe1 (X : AX) (I J : Nat → Nat → Int) (cc ss : Nat) {g : F1} (I0 : F2) (k l : Nat) (hg : J 136 = g) (hws : WS g) (hwp : WP g) (hwi : WI g) (hk : (k : Int) < g 0) (hl : g 0 = (l : Int) + 1) (hn0 : g 308 ≠ 0) (b d : Int) (v7 v8 : Option AV) (hb : b = (beF (mwF g (g (2 * k + 1))) (mwF g (g (2 * l + 1)) (g (2 * l + 2))) 1024 1).1) (hd : d = (beF (mwF g (g (2 * k + 1))) (mwF g (g (2 * l + 1)) (g (2 * l + 2))) 1024 1).2) (hF : scrM I0 I) : Ev X k_X9_bestExtra (79, [some (vr 135), some (vi (k : Int)), some (vi (l : Int)), some (vi (mwF g (g (2 * l + 1)) (g (2 * l + 2)))), some (vi b), some (vi d), some (vi 1), v7, v8], []) (MS I J cc ss) (PV cc ss (some (vi (beF (mwF g (g (2 * k + 1))) (mwF g (g (2 * l + 1)) (g (2 * l + 2))) 1024 5).1)) (fun I' J' => J' = J ∧ scrM I0 I')) := by
  have q0 := hws.1
  have q1 := hws.2.1
  have q2 := hwp.1
  have q3 := hwp.2.1
  have q4 := hwi.1
  have q5 := hwi.2.1
  have hr := hws.2.2.1 k hk
  have hr2 := hws.2.2.1 l (by omega)
  have hml := mwF_rng (g := g) (P := g (2 * l + 1)) (e := g (2 * l + 2)) hwi (by omega)
  refine ev_n (fr' := (89, [some (vr 135), some (vi (k : Int)), some (vi (l : Int)), some (vi (mwF g (g (2 * l + 1)) (g (2 * l + 2)))), some (vi b), some (vi d), some (vi 1), v7, v8], [vi (opI fRem 1 2)])) (S' := MS I J cc ss) 6 rfl ?_
  refine ev_eqi (show opI fRem 1 2 = 1 by decide) ?_
  show Ev X k_X9_bestExtra (89, [some (vr 135), some (vi (k : Int)), some (vi (l : Int)), some (vi (mwF g (g (2 * l + 1)) (g (2 * l + 2)))), some (vi b), some (vi d), some (vi 1), v7, v8], [vi 1]) (MS I J cc ss) _
  refine ev_n (fr' := (106, [some (vr 135), some (vi (k : Int)), some (vi (l : Int)), some (vi (mwF g (g (2 * l + 1)) (g (2 * l + 2)))), some (vi b), some (vi d), some (vi 1), v7, v8], [vi (opI (· / ·) (-2) 2)])) (S' := MS I J cc ss) 7 rfl ?_
  refine ev_eqi (show opI (· / ·) (-2) 2 = (-1) by decide) ?_
  show Ev X k_X9_bestExtra (106, [some (vr 135), some (vi (k : Int)), some (vi (l : Int)), some (vi (mwF g (g (2 * l + 1)) (g (2 * l + 2)))), some (vi b), some (vi d), some (vi 1), v7, v8], [vi (-1)]) (MS I J cc ss) _
  refine ev_n (fr' := (111, [some (vr 135), some (vi (k : Int)), some (vi (l : Int)), some (vi (mwF g (g (2 * l + 1)) (g (2 * l + 2)))), some (vi b), some (vi d), some (vi 1), some (vi (-1)), v8], [vi (k : Int), vr 135, vr 135])) (S' := MS I J cc ss) 4 rfl ?_
  refine ev_cv rfl rfl rfl ⟨Nat.le_of_ble_eq_true rfl, Nat.le_of_ble_eq_true rfl⟩ (sp_pixelsOf_r X _ _ _ _ k hg hws (by omega)) ?_
  show Ev X k_X9_bestExtra (114, [some (vr 135), some (vi (k : Int)), some (vi (l : Int)), some (vi (mwF g (g (2 * l + 1)) (g (2 * l + 2)))), some (vi b), some (vi d), some (vi 1), some (vi (-1)), v8], [vi (g (2 * k + 1)), vr 135]) (MS I J cc ss) _
  refine ev_n (fr' := (116, [some (vr 135), some (vi (k : Int)), some (vi (l : Int)), some (vi (mwF g (g (2 * l + 1)) (g (2 * l + 2)))), some (vi b), some (vi d), some (vi 1), some (vi (-1)), v8], [vi (-1), vi (g (2 * k + 1)), vr 135])) (S' := MS I J cc ss) 1 rfl ?_
  refine ev_cz rfl rfl rfl ⟨Nat.le_of_ble_eq_true rfl, Nat.le_of_ble_eq_true rfl⟩ (sp_rmeanWeight X _ _ _ _ (g (2 * k + 1)) (-1) hg hwp hwi (by omega) (by omega) (by omega)) (fun zI1 I1 J q2 => ?_)
  obtain ⟨rfl, rI1, hzI1⟩ := q2
  show Ev X k_X9_bestExtra (119, [some (vr 135), some (vi (k : Int)), some (vi (l : Int)), some (vi (mwF g (g (2 * l + 1)) (g (2 * l + 2)))), some (vi b), some (vi d), some (vi 1), some (vi (-1)), v8], [vi zI1]) (MS I1 J cc ss) _
  rw [hzI1]
  have hF := hF.trans rI1
  have := mwF_rng (g := g) (P := (g (2 * k + 1))) (e := -1) hwi (by omega)
  refine ev_n (fr' := (120, [some (vr 135), some (vi (k : Int)), some (vi (l : Int)), some (vi (mwF g (g (2 * l + 1)) (g (2 * l + 2)))), some (vi b), some (vi d), some (vi 1), some (vi (-1)), v8], [vi (mwF g (g (2 * l + 1)) (g (2 * l + 2))), vi (mwF g (g (2 * k + 1)) (-1))])) (S' := MS I1 J cc ss) 1 rfl ?_
  refine ev_sub (z := (mwF g (g (2 * k + 1)) (-1)) - (mwF g (g (2 * l + 1)) (g (2 * l + 2)))) rfl (by omega) (by omega) (by omega) ?_
  show Ev X k_X9_bestExtra (121, [some (vr 135), some (vi (k : Int)), some (vi (l : Int)), some (vi (mwF g (g (2 * l + 1)) (g (2 * l + 2)))), some (vi b), some (vi d), some (vi 1), some (vi (-1)), v8], [vi ((mwF g (g (2 * k + 1)) (-1)) - (mwF g (g (2 * l + 1)) (g (2 * l + 2))))]) (MS I1 J cc ss) _
  refine ev_n (fr' := (125, [some (vr 135), some (vi (k : Int)), some (vi (l : Int)), some (vi (mwF g (g (2 * l + 1)) (g (2 * l + 2)))), some (vi b), some (vi d), some (vi 1), some (vi (-1)), some (vi ((mwF g (g (2 * k + 1)) (-1)) - (mwF g (g (2 * l + 1)) (g (2 * l + 2)))))], [vi ((mwF g (g (2 * k + 1)) (-1)) - (mwF g (g (2 * l + 1)) (g (2 * l + 2))))])) (S' := MS I1 J cc ss) 2 rfl ?_
  refine ev_if (c := .ge) (off := 9) rfl (by decide) (fun (g1 : 0 ≤ (mwF g (g (2 * k + 1)) (-1)) - (mwF g (g (2 * l + 1)) (g (2 * l + 2)))) => ?_) (fun (g1 : ¬ (0 ≤ (mwF g (g (2 * k + 1)) (-1)) - (mwF g (g (2 * l + 1)) (g (2 * l + 2))))) => ?_)
  · show Ev X k_X9_bestExtra (134, [some (vr 135), some (vi (k : Int)), some (vi (l : Int)), some (vi (mwF g (g (2 * l + 1)) (g (2 * l + 2)))), some (vi b), some (vi d), some (vi 1), some (vi (-1)), some (vi ((mwF g (g (2 * k + 1)) (-1)) - (mwF g (g (2 * l + 1)) (g (2 * l + 2)))))], []) (MS I1 J cc ss) _
    refine ev_n (fr' := (142, [some (vr 135), some (vi (k : Int)), some (vi (l : Int)), some (vi (mwF g (g (2 * l + 1)) (g (2 * l + 2)))), some (vi b), some (vi d), some (vi 1), some (vi (-1)), some (vi ((mwF g (g (2 * k + 1)) (-1)) - (mwF g (g (2 * l + 1)) (g (2 * l + 2)))))], [vi d, vi ((mwF g (g (2 * k + 1)) (-1)) - (mwF g (g (2 * l + 1)) (g (2 * l + 2))))])) (S' := MS I1 J cc ss) 4 rfl ?_
    refine ev_ic (c := .lt) (off := 6) rfl (by decide) (fun (g2 : (mwF g (g (2 * k + 1)) (-1)) - (mwF g (g (2 * l + 1)) (g (2 * l + 2))) < d) => ?_) (fun (g2 : ¬ ((mwF g (g (2 * k + 1)) (-1)) - (mwF g (g (2 * l + 1)) (g (2 * l + 2))) < d)) => ?_)
    · show Ev X k_X9_bestExtra (148, [some (vr 135), some (vi (k : Int)), some (vi (l : Int)), some (vi (mwF g (g (2 * l + 1)) (g (2 * l + 2)))), some (vi b), some (vi d), some (vi 1), some (vi (-1)), some (vi ((mwF g (g (2 * k + 1)) (-1)) - (mwF g (g (2 * l + 1)) (g (2 * l + 2)))))], []) (MS I1 J cc ss) _
      refine ev_n (fr' := (79, [some (vr 135), some (vi (k : Int)), some (vi (l : Int)), some (vi (mwF g (g (2 * l + 1)) (g (2 * l + 2)))), some (vi (-1)), some (vi ((mwF g (g (2 * k + 1)) (-1)) - (mwF g (g (2 * l + 1)) (g (2 * l + 2))))), some (vi 2), some (vi (-1)), some (vi ((mwF g (g (2 * k + 1)) (-1)) - (mwF g (g (2 * l + 1)) (g (2 * l + 2)))))], [])) (S' := MS I1 J cc ss) 6 rfl ?_
      have hst : beF (mwF g (g (2 * k + 1))) (mwF g (g (2 * l + 1)) (g (2 * l + 2))) 1024 2 = ((-1), absF (mwF g (g (2 * k + 1)) (-1) - (mwF g (g (2 * l + 1)) (g (2 * l + 2))))) := if_pos (show absF (mwF g (g (2 * k + 1)) (-1) - (mwF g (g (2 * l + 1)) (g (2 * l + 2)))) < (beF (mwF g (g (2 * k + 1))) (mwF g (g (2 * l + 1)) (g (2 * l + 2))) 1024 1).2 by rw [← hd]; unfold absF; split <;> omega)
      exact lp_rbe2 X _ _ cc ss I0 k l hg hws hwp hwi hk hl hn0 _ _ _ _ (by rw [hst]) (by rw [hst]; show _ = absF (mwF g (g (2 * k + 1)) (-1) - (mwF g (g (2 * l + 1)) (g (2 * l + 2)))); unfold absF; split <;> omega) hF
    · show Ev X k_X9_bestExtra (145, [some (vr 135), some (vi (k : Int)), some (vi (l : Int)), some (vi (mwF g (g (2 * l + 1)) (g (2 * l + 2)))), some (vi b), some (vi d), some (vi 1), some (vi (-1)), some (vi ((mwF g (g (2 * k + 1)) (-1)) - (mwF g (g (2 * l + 1)) (g (2 * l + 2)))))], []) (MS I1 J cc ss) _
      refine ev_n (fr' := (79, [some (vr 135), some (vi (k : Int)), some (vi (l : Int)), some (vi (mwF g (g (2 * l + 1)) (g (2 * l + 2)))), some (vi b), some (vi d), some (vi 2), some (vi (-1)), some (vi ((mwF g (g (2 * k + 1)) (-1)) - (mwF g (g (2 * l + 1)) (g (2 * l + 2)))))], [])) (S' := MS I1 J cc ss) 3 rfl ?_
      have hst : beF (mwF g (g (2 * k + 1))) (mwF g (g (2 * l + 1)) (g (2 * l + 2))) 1024 2 = beF (mwF g (g (2 * k + 1))) (mwF g (g (2 * l + 1)) (g (2 * l + 2))) 1024 1 := if_neg (show ¬ absF (mwF g (g (2 * k + 1)) (-1) - (mwF g (g (2 * l + 1)) (g (2 * l + 2)))) < (beF (mwF g (g (2 * k + 1))) (mwF g (g (2 * l + 1)) (g (2 * l + 2))) 1024 1).2 by rw [← hd]; unfold absF; split <;> omega)
      exact lp_rbe2 X _ _ cc ss I0 k l hg hws hwp hwi hk hl hn0 _ _ _ _ (by rw [hst]; exact hb) (by rw [hst]; exact hd) hF
  · show Ev X k_X9_bestExtra (128, [some (vr 135), some (vi (k : Int)), some (vi (l : Int)), some (vi (mwF g (g (2 * l + 1)) (g (2 * l + 2)))), some (vi b), some (vi d), some (vi 1), some (vi (-1)), some (vi ((mwF g (g (2 * k + 1)) (-1)) - (mwF g (g (2 * l + 1)) (g (2 * l + 2)))))], []) (MS I1 J cc ss) _
    refine ev_n (fr' := (130, [some (vr 135), some (vi (k : Int)), some (vi (l : Int)), some (vi (mwF g (g (2 * l + 1)) (g (2 * l + 2)))), some (vi b), some (vi d), some (vi 1), some (vi (-1)), some (vi ((mwF g (g (2 * k + 1)) (-1)) - (mwF g (g (2 * l + 1)) (g (2 * l + 2)))))], [vi ((mwF g (g (2 * k + 1)) (-1)) - (mwF g (g (2 * l + 1)) (g (2 * l + 2))))])) (S' := MS I1 J cc ss) 1 rfl ?_
    refine ev_neg (z := (mwF g (g (2 * l + 1)) (g (2 * l + 2))) - (mwF g (g (2 * k + 1)) (-1))) rfl (by omega) (by omega) (by omega) ?_
    show Ev X k_X9_bestExtra (131, [some (vr 135), some (vi (k : Int)), some (vi (l : Int)), some (vi (mwF g (g (2 * l + 1)) (g (2 * l + 2)))), some (vi b), some (vi d), some (vi 1), some (vi (-1)), some (vi ((mwF g (g (2 * k + 1)) (-1)) - (mwF g (g (2 * l + 1)) (g (2 * l + 2)))))], [vi ((mwF g (g (2 * l + 1)) (g (2 * l + 2))) - (mwF g (g (2 * k + 1)) (-1)))]) (MS I1 J cc ss) _
    refine ev_n (fr' := (142, [some (vr 135), some (vi (k : Int)), some (vi (l : Int)), some (vi (mwF g (g (2 * l + 1)) (g (2 * l + 2)))), some (vi b), some (vi d), some (vi 1), some (vi (-1)), some (vi ((mwF g (g (2 * l + 1)) (g (2 * l + 2))) - (mwF g (g (2 * k + 1)) (-1))))], [vi d, vi ((mwF g (g (2 * l + 1)) (g (2 * l + 2))) - (mwF g (g (2 * k + 1)) (-1)))])) (S' := MS I1 J cc ss) 4 rfl ?_
    refine ev_ic (c := .lt) (off := 6) rfl (by decide) (fun (g3 : (mwF g (g (2 * l + 1)) (g (2 * l + 2))) - (mwF g (g (2 * k + 1)) (-1)) < d) => ?_) (fun (g3 : ¬ ((mwF g (g (2 * l + 1)) (g (2 * l + 2))) - (mwF g (g (2 * k + 1)) (-1)) < d)) => ?_)
    · show Ev X k_X9_bestExtra (148, [some (vr 135), some (vi (k : Int)), some (vi (l : Int)), some (vi (mwF g (g (2 * l + 1)) (g (2 * l + 2)))), some (vi b), some (vi d), some (vi 1), some (vi (-1)), some (vi ((mwF g (g (2 * l + 1)) (g (2 * l + 2))) - (mwF g (g (2 * k + 1)) (-1))))], []) (MS I1 J cc ss) _
      refine ev_n (fr' := (79, [some (vr 135), some (vi (k : Int)), some (vi (l : Int)), some (vi (mwF g (g (2 * l + 1)) (g (2 * l + 2)))), some (vi (-1)), some (vi ((mwF g (g (2 * l + 1)) (g (2 * l + 2))) - (mwF g (g (2 * k + 1)) (-1)))), some (vi 2), some (vi (-1)), some (vi ((mwF g (g (2 * l + 1)) (g (2 * l + 2))) - (mwF g (g (2 * k + 1)) (-1))))], [])) (S' := MS I1 J cc ss) 6 rfl ?_
      have hst : beF (mwF g (g (2 * k + 1))) (mwF g (g (2 * l + 1)) (g (2 * l + 2))) 1024 2 = ((-1), absF (mwF g (g (2 * k + 1)) (-1) - (mwF g (g (2 * l + 1)) (g (2 * l + 2))))) := if_pos (show absF (mwF g (g (2 * k + 1)) (-1) - (mwF g (g (2 * l + 1)) (g (2 * l + 2)))) < (beF (mwF g (g (2 * k + 1))) (mwF g (g (2 * l + 1)) (g (2 * l + 2))) 1024 1).2 by rw [← hd]; unfold absF; split <;> omega)
      exact lp_rbe2 X _ _ cc ss I0 k l hg hws hwp hwi hk hl hn0 _ _ _ _ (by rw [hst]) (by rw [hst]; show _ = absF (mwF g (g (2 * k + 1)) (-1) - (mwF g (g (2 * l + 1)) (g (2 * l + 2)))); unfold absF; split <;> omega) hF
    · show Ev X k_X9_bestExtra (145, [some (vr 135), some (vi (k : Int)), some (vi (l : Int)), some (vi (mwF g (g (2 * l + 1)) (g (2 * l + 2)))), some (vi b), some (vi d), some (vi 1), some (vi (-1)), some (vi ((mwF g (g (2 * l + 1)) (g (2 * l + 2))) - (mwF g (g (2 * k + 1)) (-1))))], []) (MS I1 J cc ss) _
      refine ev_n (fr' := (79, [some (vr 135), some (vi (k : Int)), some (vi (l : Int)), some (vi (mwF g (g (2 * l + 1)) (g (2 * l + 2)))), some (vi b), some (vi d), some (vi 2), some (vi (-1)), some (vi ((mwF g (g (2 * l + 1)) (g (2 * l + 2))) - (mwF g (g (2 * k + 1)) (-1))))], [])) (S' := MS I1 J cc ss) 3 rfl ?_
      have hst : beF (mwF g (g (2 * k + 1))) (mwF g (g (2 * l + 1)) (g (2 * l + 2))) 1024 2 = beF (mwF g (g (2 * k + 1))) (mwF g (g (2 * l + 1)) (g (2 * l + 2))) 1024 1 := if_neg (show ¬ absF (mwF g (g (2 * k + 1)) (-1) - (mwF g (g (2 * l + 1)) (g (2 * l + 2)))) < (beF (mwF g (g (2 * k + 1))) (mwF g (g (2 * l + 1)) (g (2 * l + 2))) 1024 1).2 by rw [← hd]; unfold absF; split <;> omega)
      exact lp_rbe2 X _ _ cc ss I0 k l hg hws hwp hwi hk hl hn0 _ _ _ _ (by rw [hst]; exact hb) (by rw [hst]; exact hd) hF
theorem lp_rbe0 (X : AX) (I J : Nat → Nat → Int) (cc ss : Nat) {g : F1} (I0 : F2) (k l : Nat) (hg : J 136 = g) (hws : WS g) (hwp : WP g) (hwi : WI g) (hk : (k : Int) < g 0) (hl : g 0 = (l : Int) + 1) (hn0 : g 308 ≠ 0) (b d : Int) (v7 v8 : Option AV) (hb : b = (beF (mwF g (g (2 * k + 1))) (mwF g (g (2 * l + 1)) (g (2 * l + 2))) 1024 0).1) (hd : d = (beF (mwF g (g (2 * k + 1))) (mwF g (g (2 * l + 1)) (g (2 * l + 2))) 1024 0).2) (hF : scrM I0 I) : Ev X k_X9_bestExtra (79, [some (vr 135), some (vi (k : Int)), some (vi (l : Int)), some (vi (mwF g (g (2 * l + 1)) (g (2 * l + 2)))), some (vi b), some (vi d), some (vi 0), v7, v8], []) (MS I J cc ss) (PV cc ss (some (vi (beF (mwF g (g (2 * k + 1))) (mwF g (g (2 * l + 1)) (g (2 * l + 2))) 1024 5).1)) (fun I' J' => J' = J ∧ scrM I0 I')) := by
  have q0 := hws.1
  have q1 := hws.2.1
  have q2 := hwp.1
  have q3 := hwp.2.1
  have q4 := hwi.1
  have q5 := hwi.2.1
  have hr := hws.2.2.1 k hk
  have hr2 := hws.2.2.1 l (by omega)
  have hml := mwF_rng (g := g) (P := g (2 * l + 1)) (e := g (2 * l + 2)) hwi (by omega)
  refine ev_n (fr' := (89, [some (vr 135), some (vi (k : Int)), some (vi (l : Int)), some (vi (mwF g (g (2 * l + 1)) (g (2 * l + 2)))), some (vi b), some (vi d), some (vi 0), v7, v8], [vi (opI fRem 0 2)])) (S' := MS I J cc ss) 6 rfl ?_
  refine ev_eqi (show opI fRem 0 2 = 0 by decide) ?_
  show Ev X k_X9_bestExtra (89, [some (vr 135), some (vi (k : Int)), some (vi (l : Int)), some (vi (mwF g (g (2 * l + 1)) (g (2 * l + 2)))), some (vi b), some (vi d), some (vi 0), v7, v8], [vi 0]) (MS I J cc ss) _
  refine ev_n (fr' := (96, [some (vr 135), some (vi (k : Int)), some (vi (l : Int)), some (vi (mwF g (g (2 * l + 1)) (g (2 * l + 2)))), some (vi b), some (vi d), some (vi 0), v7, v8], [vi (opI (· / ·) 0 2)])) (S' := MS I J cc ss) 4 rfl ?_
  refine ev_eqi (show opI (· / ·) 0 2 = 0 by decide) ?_
  show Ev X k_X9_bestExtra (96, [some (vr 135), some (vi (k : Int)), some (vi (l : Int)), some (vi (mwF g (g (2 * l + 1)) (g (2 * l + 2)))), some (vi b), some (vi d), some (vi 0), v7, v8], [vi 0]) (MS I J cc ss) _
  refine ev_n (fr' := (111, [some (vr 135), some (vi (k : Int)), some (vi (l : Int)), some (vi (mwF g (g (2 * l + 1)) (g (2 * l + 2)))), some (vi b), some (vi d), some (vi 0), some (vi 0), v8], [vi (k : Int), vr 135, vr 135])) (S' := MS I J cc ss) 5 rfl ?_
  refine ev_cv rfl rfl rfl ⟨Nat.le_of_ble_eq_true rfl, Nat.le_of_ble_eq_true rfl⟩ (sp_pixelsOf_r X _ _ _ _ k hg hws (by omega)) ?_
  show Ev X k_X9_bestExtra (114, [some (vr 135), some (vi (k : Int)), some (vi (l : Int)), some (vi (mwF g (g (2 * l + 1)) (g (2 * l + 2)))), some (vi b), some (vi d), some (vi 0), some (vi 0), v8], [vi (g (2 * k + 1)), vr 135]) (MS I J cc ss) _
  refine ev_n (fr' := (116, [some (vr 135), some (vi (k : Int)), some (vi (l : Int)), some (vi (mwF g (g (2 * l + 1)) (g (2 * l + 2)))), some (vi b), some (vi d), some (vi 0), some (vi 0), v8], [vi 0, vi (g (2 * k + 1)), vr 135])) (S' := MS I J cc ss) 1 rfl ?_
  refine ev_cz rfl rfl rfl ⟨Nat.le_of_ble_eq_true rfl, Nat.le_of_ble_eq_true rfl⟩ (sp_rmeanWeight X _ _ _ _ (g (2 * k + 1)) 0 hg hwp hwi (by omega) (by omega) (by omega)) (fun zI1 I1 J q2 => ?_)
  obtain ⟨rfl, rI1, hzI1⟩ := q2
  show Ev X k_X9_bestExtra (119, [some (vr 135), some (vi (k : Int)), some (vi (l : Int)), some (vi (mwF g (g (2 * l + 1)) (g (2 * l + 2)))), some (vi b), some (vi d), some (vi 0), some (vi 0), v8], [vi zI1]) (MS I1 J cc ss) _
  rw [hzI1]
  have hF := hF.trans rI1
  have := mwF_rng (g := g) (P := (g (2 * k + 1))) (e := 0) hwi (by omega)
  refine ev_n (fr' := (120, [some (vr 135), some (vi (k : Int)), some (vi (l : Int)), some (vi (mwF g (g (2 * l + 1)) (g (2 * l + 2)))), some (vi b), some (vi d), some (vi 0), some (vi 0), v8], [vi (mwF g (g (2 * l + 1)) (g (2 * l + 2))), vi (mwF g (g (2 * k + 1)) 0)])) (S' := MS I1 J cc ss) 1 rfl ?_
  refine ev_sub (z := (mwF g (g (2 * k + 1)) 0) - (mwF g (g (2 * l + 1)) (g (2 * l + 2)))) rfl (by omega) (by omega) (by omega) ?_
  show Ev X k_X9_bestExtra (121, [some (vr 135), some (vi (k : Int)), some (vi (l : Int)), some (vi (mwF g (g (2 * l + 1)) (g (2 * l + 2)))), some (vi b), some (vi d), some (vi 0), some (vi 0), v8], [vi ((mwF g (g (2 * k + 1)) 0) - (mwF g (g (2 * l + 1)) (g (2 * l + 2))))]) (MS I1 J cc ss) _
  refine ev_n (fr' := (125, [some (vr 135), some (vi (k : Int)), some (vi (l : Int)), some (vi (mwF g (g (2 * l + 1)) (g (2 * l + 2)))), some (vi b), some (vi d), some (vi 0), some (vi 0), some (vi ((mwF g (g (2 * k + 1)) 0) - (mwF g (g (2 * l + 1)) (g (2 * l + 2)))))], [vi ((mwF g (g (2 * k + 1)) 0) - (mwF g (g (2 * l + 1)) (g (2 * l + 2))))])) (S' := MS I1 J cc ss) 2 rfl ?_
  refine ev_if (c := .ge) (off := 9) rfl (by decide) (fun (g1 : 0 ≤ (mwF g (g (2 * k + 1)) 0) - (mwF g (g (2 * l + 1)) (g (2 * l + 2)))) => ?_) (fun (g1 : ¬ (0 ≤ (mwF g (g (2 * k + 1)) 0) - (mwF g (g (2 * l + 1)) (g (2 * l + 2))))) => ?_)
  · show Ev X k_X9_bestExtra (134, [some (vr 135), some (vi (k : Int)), some (vi (l : Int)), some (vi (mwF g (g (2 * l + 1)) (g (2 * l + 2)))), some (vi b), some (vi d), some (vi 0), some (vi 0), some (vi ((mwF g (g (2 * k + 1)) 0) - (mwF g (g (2 * l + 1)) (g (2 * l + 2)))))], []) (MS I1 J cc ss) _
    refine ev_n (fr' := (142, [some (vr 135), some (vi (k : Int)), some (vi (l : Int)), some (vi (mwF g (g (2 * l + 1)) (g (2 * l + 2)))), some (vi b), some (vi d), some (vi 0), some (vi 0), some (vi ((mwF g (g (2 * k + 1)) 0) - (mwF g (g (2 * l + 1)) (g (2 * l + 2)))))], [vi d, vi ((mwF g (g (2 * k + 1)) 0) - (mwF g (g (2 * l + 1)) (g (2 * l + 2))))])) (S' := MS I1 J cc ss) 4 rfl ?_
    refine ev_ic (c := .lt) (off := 6) rfl (by decide) (fun (g2 : (mwF g (g (2 * k + 1)) 0) - (mwF g (g (2 * l + 1)) (g (2 * l + 2))) < d) => ?_) (fun (g2 : ¬ ((mwF g (g (2 * k + 1)) 0) - (mwF g (g (2 * l + 1)) (g (2 * l + 2))) < d)) => ?_)
    · show Ev X k_X9_bestExtra (148, [some (vr 135), some (vi (k : Int)), some (vi (l : Int)), some (vi (mwF g (g (2 * l + 1)) (g (2 * l + 2)))), some (vi b), some (vi d), some (vi 0), some (vi 0), some (vi ((mwF g (g (2 * k + 1)) 0) - (mwF g (g (2 * l + 1)) (g (2 * l + 2)))))], []) (MS I1 J cc ss) _
      refine ev_n (fr' := (79, [some (vr 135), some (vi (k : Int)), some (vi (l : Int)), some (vi (mwF g (g (2 * l + 1)) (g (2 * l + 2)))), some (vi 0), some (vi ((mwF g (g (2 * k + 1)) 0) - (mwF g (g (2 * l + 1)) (g (2 * l + 2))))), some (vi 1), some (vi 0), some (vi ((mwF g (g (2 * k + 1)) 0) - (mwF g (g (2 * l + 1)) (g (2 * l + 2)))))], [])) (S' := MS I1 J cc ss) 6 rfl ?_
      have hst : beF (mwF g (g (2 * k + 1))) (mwF g (g (2 * l + 1)) (g (2 * l + 2))) 1024 1 = (0, absF (mwF g (g (2 * k + 1)) 0 - (mwF g (g (2 * l + 1)) (g (2 * l + 2))))) := if_pos (show absF (mwF g (g (2 * k + 1)) 0 - (mwF g (g (2 * l + 1)) (g (2 * l + 2)))) < (beF (mwF g (g (2 * k + 1))) (mwF g (g (2 * l + 1)) (g (2 * l + 2))) 1024 0).2 by rw [← hd]; unfold absF; split <;> omega)
      exact lp_rbe1 X _ _ cc ss I0 k l hg hws hwp hwi hk hl hn0 _ _ _ _ (by rw [hst]) (by rw [hst]; show _ = absF (mwF g (g (2 * k + 1)) 0 - (mwF g (g (2 * l + 1)) (g (2 * l + 2)))); unfold absF; split <;> omega) hF
    · show Ev X k_X9_bestExtra (145, [some (vr 135), some (vi (k : Int)), some (vi (l : Int)), some (vi (mwF g (g (2 * l + 1)) (g (2 * l + 2)))), some (vi b), some (vi d), some (vi 0), some (vi 0), some (vi ((mwF g (g (2 * k + 1)) 0) - (mwF g (g (2 * l + 1)) (g (2 * l + 2)))))], []) (MS I1 J cc ss) _
      refine ev_n (fr' := (79, [some (vr 135), some (vi (k : Int)), some (vi (l : Int)), some (vi (mwF g (g (2 * l + 1)) (g (2 * l + 2)))), some (vi b), some (vi d), some (vi 1), some (vi 0), some (vi ((mwF g (g (2 * k + 1)) 0) - (mwF g (g (2 * l + 1)) (g (2 * l + 2)))))], [])) (S' := MS I1 J cc ss) 3 rfl ?_
      have hst : beF (mwF g (g (2 * k + 1))) (mwF g (g (2 * l + 1)) (g (2 * l + 2))) 1024 1 = beF (mwF g (g (2 * k + 1))) (mwF g (g (2 * l + 1)) (g (2 * l + 2))) 1024 0 := if_neg (show ¬ absF (mwF g (g (2 * k + 1)) 0 - (mwF g (g (2 * l + 1)) (g (2 * l + 2)))) < (beF (mwF g (g (2 * k + 1))) (mwF g (g (2 * l + 1)) (g (2 * l + 2))) 1024 0).2 by rw [← hd]; unfold absF; split <;> omega)
      exact lp_rbe1 X _ _ cc ss I0 k l hg hws hwp hwi hk hl hn0 _ _ _ _ (by rw [hst]; exact hb) (by rw [hst]; exact hd) hF
  · show Ev X k_X9_bestExtra (128, [some (vr 135), some (vi (k : Int)), some (vi (l : Int)), some (vi (mwF g (g (2 * l + 1)) (g (2 * l + 2)))), some (vi b), some (vi d), some (vi 0), some (vi 0), some (vi ((mwF g (g (2 * k + 1)) 0) - (mwF g (g (2 * l + 1)) (g (2 * l + 2)))))], []) (MS I1 J cc ss) _
    refine ev_n (fr' := (130, [some (vr 135), some (vi (k : Int)), some (vi (l : Int)), some (vi (mwF g (g (2 * l + 1)) (g (2 * l + 2)))), some (vi b), some (vi d), some (vi 0), some (vi 0), some (vi ((mwF g (g (2 * k + 1)) 0) - (mwF g (g (2 * l + 1)) (g (2 * l + 2)))))], [vi ((mwF g (g (2 * k + 1)) 0) - (mwF g (g (2 * l + 1)) (g (2 * l + 2))))])) (S' := MS I1 J cc ss) 1 rfl ?_
    refine ev_neg (z := (mwF g (g (2 * l + 1)) (g (2 * l + 2))) - (mwF g (g (2 * k + 1)) 0)) rfl (by omega) (by omega) (by omega) ?_
    show Ev X k_X9_bestExtra (131, [some (vr 135), some (vi (k : Int)), some (vi (l : Int)), some (vi (mwF g (g (2 * l + 1)) (g (2 * l + 2)))), some (vi b), some (vi d), some (vi 0), some (vi 0), some (vi ((mwF g (g (2 * k + 1)) 0) - (mwF g (g (2 * l + 1)) (g (2 * l + 2)))))], [vi ((mwF g (g (2 * l + 1)) (g (2 * l + 2))) - (mwF g (g (2 * k + 1)) 0))]) (MS I1 J cc ss) _
    refine ev_n (fr' := (142, [some (vr 135), some (vi (k : Int)), some (vi (l : Int)), some (vi (mwF g (g (2 * l + 1)) (g (2 * l + 2)))), some (vi b), some (vi d), some (vi 0), some (vi 0), some (vi ((mwF g (g (2 * l + 1)) (g (2 * l + 2))) - (mwF g (g (2 * k + 1)) 0)))], [vi d, vi ((mwF g (g (2 * l + 1)) (g (2 * l + 2))) - (mwF g (g (2 * k + 1)) 0))])) (S' := MS I1 J cc ss) 4 rfl ?_
    refine ev_ic (c := .lt) (off := 6) rfl (by decide) (fun (g3 : (mwF g (g (2 * l + 1)) (g (2 * l + 2))) - (mwF g (g (2 * k + 1)) 0) < d) => ?_) (fun (g3 : ¬ ((mwF g (g (2 * l + 1)) (g (2 * l + 2))) - (mwF g (g (2 * k + 1)) 0) < d)) => ?_)
    · show Ev X k_X9_bestExtra (148, [some (vr 135), some (vi (k : Int)), some (vi (l : Int)), some (vi (mwF g (g (2 * l + 1)) (g (2 * l + 2)))), some (vi b), some (vi d), some (vi 0), some (vi 0), some (vi ((mwF g (g (2 * l + 1)) (g (2 * l + 2))) - (mwF g (g (2 * k + 1)) 0)))], []) (MS I1 J cc ss) _
      refine ev_n (fr' := (79, [some (vr 135), some (vi (k : Int)), some (vi (l : Int)), some (vi (mwF g (g (2 * l + 1)) (g (2 * l + 2)))), some (vi 0), some (vi ((mwF g (g (2 * l + 1)) (g (2 * l + 2))) - (mwF g (g (2 * k + 1)) 0))), some (vi 1), some (vi 0), some (vi ((mwF g (g (2 * l + 1)) (g (2 * l + 2))) - (mwF g (g (2 * k + 1)) 0)))], [])) (S' := MS I1 J cc ss) 6 rfl ?_
      have hst : beF (mwF g (g (2 * k + 1))) (mwF g (g (2 * l + 1)) (g (2 * l + 2))) 1024 1 = (0, absF (mwF g (g (2 * k + 1)) 0 - (mwF g (g (2 * l + 1)) (g (2 * l + 2))))) := if_pos (show absF (mwF g (g (2 * k + 1)) 0 - (mwF g (g (2 * l + 1)) (g (2 * l + 2)))) < (beF (mwF g (g (2 * k + 1))) (mwF g (g (2 * l + 1)) (g (2 * l + 2))) 1024 0).2 by rw [← hd]; unfold absF; split <;> omega)
      exact lp_rbe1 X _ _ cc ss I0 k l hg hws hwp hwi hk hl hn0 _ _ _ _ (by rw [hst]) (by rw [hst]; show _ = absF (mwF g (g (2 * k + 1)) 0 - (mwF g (g (2 * l + 1)) (g (2 * l + 2)))); unfold absF; split <;> omega) hF
    · show Ev X k_X9_bestExtra (145, [some (vr 135), some (vi (k : Int)), some (vi (l : Int)), some (vi (mwF g (g (2 * l + 1)) (g (2 * l + 2)))), some (vi b), some (vi d), some (vi 0), some (vi 0), some (vi ((mwF g (g (2 * l + 1)) (g (2 * l + 2))) - (mwF g (g (2 * k + 1)) 0)))], []) (MS I1 J cc ss) _
      refine ev_n (fr' := (79, [some (vr 135), some (vi (k : Int)), some (vi (l : Int)), some (vi (mwF g (g (2 * l + 1)) (g (2 * l + 2)))), some (vi b), some (vi d), some (vi 1), some (vi 0), some (vi ((mwF g (g (2 * l + 1)) (g (2 * l + 2))) - (mwF g (g (2 * k + 1)) 0)))], [])) (S' := MS I1 J cc ss) 3 rfl ?_
      have hst : beF (mwF g (g (2 * k + 1))) (mwF g (g (2 * l + 1)) (g (2 * l + 2))) 1024 1 = beF (mwF g (g (2 * k + 1))) (mwF g (g (2 * l + 1)) (g (2 * l + 2))) 1024 0 := if_neg (show ¬ absF (mwF g (g (2 * k + 1)) 0 - (mwF g (g (2 * l + 1)) (g (2 * l + 2)))) < (beF (mwF g (g (2 * k + 1))) (mwF g (g (2 * l + 1)) (g (2 * l + 2))) 1024 0).2 by rw [← hd]; unfold absF; split <;> omega)
      exact lp_rbe1 X _ _ cc ss I0 k l hg hws hwp hwi hk hl hn0 _ _ _ _ (by rw [hst]; exact hb) (by rw [hst]; exact hd) hF
theorem rb_best_x (X : AX) (I J : Nat → Nat → Int) (cc ss : Nat) {g : F1} (y : Int) (hg : J 136 = g) (hws : WS g) (hwp : WP g) (hwi : WI g) (h : ¬ (0 ≤ y ∧ y < g 0)) : Ev X k_X9_bestExtra (0, [some (vr 135), some (vi y), none, none, none, none, none, none, none], []) (MS I J cc ss) (fun o T => o = .inl (some (vi 0)) ∧ T = MS (up2 I 135 4 1) J cc ss) := by
  have q0 := hws.1
  have q1 := hws.2.1
  have q2 := hwp.1
  have q3 := hwp.2.1
  have q4 := hwi.1
  have q5 := hwi.2.1
  refine ev_n (fr' := (3, [some (vr 135), some (vi y), none, none, none, none, none, none, none], [vi y, vr 135, vr 135])) (S' := MS I J cc ss) 3 rfl ?_
  refine ev_cv rfl rfl rfl ⟨Nat.le_of_ble_eq_true rfl, Nat.le_of_ble_eq_true rfl⟩ (sp_isSize_r X _ _ _ _ y hg hws) ?_
  show Ev X k_X9_bestExtra (6, [some (vr 135), some (vi y), none, none, none, none, none, none, none], [vi (if 0 ≤ y ∧ y ≤ g 0 - 1 then 1 else 0), vr 135]) (MS I J cc ss) _
  refine ev_bne _ rfl (by decide) (fun (g1 : 0 ≤ y ∧ y ≤ g 0 - 1) => False.elim ((show ¬ (0 ≤ y ∧ y ≤ g 0 - 1) from by omega) g1)) (fun (g1 : ¬ (0 ≤ y ∧ y ≤ g 0 - 1)) => ?_)
  show Ev X k_X9_bestExtra (9, [some (vr 135), some (vi y), none, none, none, none, none, none, none], [vr 135]) (MS I J cc ss) _
  refine ev_n (fr' := (31, [some (vr 135), some (vi y), none, none, none, none, none, none, none], [vi 1, vr 135])) (S' := MS I J cc ss) 2 rfl ?_
  refine ev_n (fr' := (34, [some (vr 135), some (vi y), none, none, none, none, none, none, none], [])) (S' := MS (up2 I 135 4 1) J cc ss) 1 rfl ?_
  refine ev_n (fr' := (42, [some (vr 135), some (vi y), none, none, none, none, none, none, none], [vi 0])) (S' := MS (up2 I 135 4 1) J cc ss) 4 rfl ?_
  refine ev_r rfl rfl rfl ?_
  exact ⟨rfl, rfl⟩
theorem rb_best_y (X : AX) (I J : Nat → Nat → Int) (cc ss : Nat) {g : F1} (k : Nat) (hg : J 136 = g) (hws : WS g) (hwp : WP g) (hwi : WI g) (hk : (k : Int) < g 0) (h : g 308 = 0) : Ev X k_X9_bestExtra (0, [some (vr 135), some (vi (k : Int)), none, none, none, none, none, none, none], []) (MS I J cc ss) (fun o T => o = .inl (some (vi 0)) ∧ T = MS (up2 I 135 4 2) J cc ss) := by
  have q0 := hws.1
  have q1 := hws.2.1
  have q2 := hwp.1
  have q3 := hwp.2.1
  have q4 := hwi.1
  have q5 := hwi.2.1
  refine ev_n (fr' := (3, [some (vr 135), some (vi (k : Int)), none, none, none, none, none, none, none], [vi (k : Int), vr 135, vr 135])) (S' := MS I J cc ss) 3 rfl ?_
  refine ev_cv rfl rfl rfl ⟨Nat.le_of_ble_eq_true rfl, Nat.le_of_ble_eq_true rfl⟩ (sp_isSize_r X _ _ _ _ (k : Int) hg hws) ?_
  show Ev X k_X9_bestExtra (6, [some (vr 135), some (vi (k : Int)), none, none, none, none, none, none, none], [vi (if 0 ≤ (k : Int) ∧ (k : Int) ≤ g 0 - 1 then 1 else 0), vr 135]) (MS I J cc ss) _
  refine ev_bne _ rfl (by decide) (fun (g1 : 0 ≤ (k : Int) ∧ (k : Int) ≤ g 0 - 1) => ?_) (fun (g1 : ¬ (0 ≤ (k : Int) ∧ (k : Int) ≤ g 0 - 1)) => False.elim (g1 (by omega)))
  show Ev X k_X9_bestExtra (13, [some (vr 135), some (vi (k : Int)), none, none, none, none, none, none, none], [vr 135]) (MS I J cc ss) _
  refine ev_n (fr' := (20, [some (vr 135), some (vi (k : Int)), none, none, none, none, none, none, none], [vi 308, vr 136, vr 135])) (S' := MS I J cc ss) 3 rfl ?_
  refine ev_laN (j := 308) (z := (g 308)) rfl rfl (by omega) (by omega) (congrFun hg _) ?_
  show Ev X k_X9_bestExtra (21, [some (vr 135), some (vi (k : Int)), none, none, none, none, none, none, none], [vl (g 308), vr 135]) (MS I J cc ss) _
  refine ev_n (fr' := (22, [some (vr 135), some (vi (k : Int)), none, none, none, none, none, none, none], [vl 0, vl (g 308), vr 135])) (S' := MS I J cc ss) 1 rfl ?_
  refine ev_lc (c := .ne) (off := 7) rfl rfl (by decide) (fun (g2 : (g 308) ≠ 0) => False.elim (by omega)) (fun (g2 : ¬ ((g 308) ≠ 0)) => ?_)
  show Ev X k_X9_bestExtra (26, [some (vr 135), some (vi (k : Int)), none, none, none, none, none, none, none], [vr 135]) (MS I J cc ss) _
  refine ev_n (fr' := (31, [some (vr 135), some (vi (k : Int)), none, none, none, none, none, none, none], [vi 2, vr 135])) (S' := MS I J cc ss) 2 rfl ?_
  refine ev_n (fr' := (34, [some (vr 135), some (vi (k : Int)), none, none, none, none, none, none, none], [])) (S' := MS (up2 I 135 4 2) J cc ss) 1 rfl ?_
  refine ev_n (fr' := (42, [some (vr 135), some (vi (k : Int)), none, none, none, none, none, none, none], [vi 0])) (S' := MS (up2 I 135 4 2) J cc ss) 4 rfl ?_
  refine ev_r rfl rfl rfl ?_
  exact ⟨rfl, rfl⟩
theorem rb_best (X : AX) (I J : Nat → Nat → Int) (cc ss : Nat) {g : F1} (k l : Nat) (hg : J 136 = g) (hws : WS g) (hwp : WP g) (hwi : WI g) (hk : (k : Int) < g 0) (hl : g 0 = (l : Int) + 1) (hn0 : g 308 ≠ 0) : Ev X k_X9_bestExtra (0, [some (vr 135), some (vi (k : Int)), none, none, none, none, none, none, none], []) (MS I J cc ss) (PV cc ss (some (vi ((beF (mwF g (g (2 * k + 1))) (mwF g (g (2 * l + 1)) (g (2 * l + 2))) 1001 5).1))) (fun I' J' => J' = J ∧ scrM (up2 I 135 4 0) I')) := by
  have q0 := hws.1
  have q1 := hws.2.1
  have q2 := hwp.1
  have q3 := hwp.2.1
  have q4 := hwi.1
  have q5 := hwi.2.1
  have hr := hws.2.2.1 k hk
  have hr2 := hws.2.2.1 l (by omega)
  have hml := mwF_rng (g := g) (P := g (2 * l + 1)) (e := g (2 * l + 2)) hwi (by omega)
  have hF := scrM.refl (up2 I 135 4 0)
  have hm0 := mwF_rng (g := g) (P := g (2 * k + 1)) (e := 0) hwi (by omega)
  refine ev_n (fr' := (3, [some (vr 135), some (vi (k : Int)), none, none, none, none, none, none, none], [vi (k : Int), vr 135, vr 135])) (S' := MS I J cc ss) 3 rfl ?_
  refine ev_cv rfl rfl rfl ⟨Nat.le_of_ble_eq_true rfl, Nat.le_of_ble_eq_true rfl⟩ (sp_isSize_r X _ _ _ _ (k : Int) hg hws) ?_
  show Ev X k_X9_bestExtra (6, [some (vr 135), some (vi (k : Int)), none, none, none, none, none, none, none], [vi (if 0 ≤ (k : Int) ∧ (k : Int) ≤ g 0 - 1 then 1 else 0), vr 135]) (MS I J cc ss) _
  refine ev_bne _ rfl (by decide) (fun (g1 : 0 ≤ (k : Int) ∧ (k : Int) ≤ g 0 - 1) => ?_) (fun (g1 : ¬ (0 ≤ (k : Int) ∧ (k : Int) ≤ g 0 - 1)) => False.elim (g1 (by omega)))
  show Ev X k_X9_bestExtra (13, [some (vr 135), some (vi (k : Int)), none, none, none, none, none, none, none], [vr 135]) (MS I J cc ss) _
  refine ev_n (fr' := (20, [some (vr 135), some (vi (k : Int)), none, none, none, none, none, none, none], [vi 308, vr 136, vr 135])) (S' := MS I J cc ss) 3 rfl ?_
  refine ev_laN (j := 308) (z := (g 308)) rfl rfl (by omega) (by omega) (congrFun hg _) ?_
  show Ev X k_X9_bestExtra (21, [some (vr 135), some (vi (k : Int)), none, none, none, none, none, none, none], [vl (g 308), vr 135]) (MS I J cc ss) _
  refine ev_n (fr' := (22, [some (vr 135), some (vi (k : Int)), none, none, none, none, none, none, none], [vl 0, vl (g 308), vr 135])) (S' := MS I J cc ss) 1 rfl ?_
  refine ev_lc (c := .ne) (off := 7) rfl rfl (by decide) (fun (g2 : (g 308) ≠ 0) => ?_) (fun (g2 : ¬ ((g 308) ≠ 0)) => False.elim (by omega))
  show Ev X k_X9_bestExtra (30, [some (vr 135), some (vi (k : Int)), none, none, none, none, none, none, none], [vr 135]) (MS I J cc ss) _
  refine ev_n (fr' := (31, [some (vr 135), some (vi (k : Int)), none, none, none, none, none, none, none], [vi 0, vr 135])) (S' := MS I J cc ss) 1 rfl ?_
  refine ev_n (fr' := (34, [some (vr 135), some (vi (k : Int)), none, none, none, none, none, none, none], [])) (S' := MS (up2 I 135 4 0) J cc ss) 1 rfl ?_
  refine ev_n (fr' := (48, [some (vr 135), some (vi (k : Int)), none, none, none, none, none, none, none], [vi 0, vr 136])) (S' := MS (up2 I 135 4 0) J cc ss) 6 rfl ?_
  refine ev_laN (j := 0) (z := (g 0)) rfl rfl (by omega) (by omega) (congrFun hg _) ?_
  show Ev X k_X9_bestExtra (49, [some (vr 135), some (vi (k : Int)), none, none, none, none, none, none, none], [vl (g 0)]) (MS (up2 I 135 4 0) J cc ss) _
  refine ev_l2i rfl (by omega) (by omega) ?_
  show Ev X k_X9_bestExtra (50, [some (vr 135), some (vi (k : Int)), none, none, none, none, none, none, none], [vi (g 0)]) (MS (up2 I 135 4 0) J cc ss) _
  refine ev_n (fr' := (51, [some (vr 135), some (vi (k : Int)), none, none, none, none, none, none, none], [vi 1, vi (g 0)])) (S' := MS (up2 I 135 4 0) J cc ss) 1 rfl ?_
  refine ev_sub (z := (g 0) - 1) rfl (by omega) (by omega) (by omega) ?_
  show Ev X k_X9_bestExtra (52, [some (vr 135), some (vi (k : Int)), none, none, none, none, none, none, none], [vi ((g 0) - 1)]) (MS (up2 I 135 4 0) J cc ss) _
  refine ev_eqi (show (g 0) - 1 = (l : Int) from by omega) ?_
  show Ev X k_X9_bestExtra (52, [some (vr 135), some (vi (k : Int)), none, none, none, none, none, none, none], [vi (l : Int)]) (MS (up2 I 135 4 0) J cc ss) _
  refine ev_n (fr' := (56, [some (vr 135), some (vi (k : Int)), some (vi (l : Int)), none, none, none, none, none, none], [vi (l : Int), vr 135, vr 135])) (S' := MS (up2 I 135 4 0) J cc ss) 4 rfl ?_
  refine ev_cv rfl rfl rfl ⟨Nat.le_of_ble_eq_true rfl, Nat.le_of_ble_eq_true rfl⟩ (sp_pixelsOf_r X _ _ _ _ l hg hws (by omega)) ?_
  show Ev X k_X9_bestExtra (59, [some (vr 135), some (vi (k : Int)), some (vi (l : Int)), none, none, none, none, none, none], [vi (g (2 * l + 1)), vr 135]) (MS (up2 I 135 4 0) J cc ss) _
  refine ev_n (fr' := (61, [some (vr 135), some (vi (k : Int)), some (vi (l : Int)), none, none, none, none, none, none], [vi (l : Int), vr 135, vi (g (2 * l + 1)), vr 135])) (S' := MS (up2 I 135 4 0) J cc ss) 2 rfl ?_
  refine ev_cv rfl rfl rfl ⟨Nat.le_of_ble_eq_true rfl, Nat.le_of_ble_eq_true rfl⟩ (sp_extraOf_r X _ _ _ _ l hg hws (by omega)) ?_
  show Ev X k_X9_bestExtra (64, [some (vr 135), some (vi (k : Int)), some (vi (l : Int)), none, none, none, none, none, none], [vi (g (2 * l + 2)), vi (g (2 * l + 1)), vr 135]) (MS (up2 I 135 4 0) J cc ss) _
  refine ev_cz rfl rfl rfl ⟨Nat.le_of_ble_eq_true rfl, Nat.le_of_ble_eq_true rfl⟩ (sp_rmeanWeight X _ _ _ _ (g (2 * l + 1)) (g (2 * l + 2)) hg hwp hwi (by omega) (by omega) (by omega)) (fun zI1 I1 J q2 => ?_)
  obtain ⟨rfl, rI1, hzI1⟩ := q2
  show Ev X k_X9_bestExtra (67, [some (vr 135), some (vi (k : Int)), some (vi (l : Int)), none, none, none, none, none, none], [vi zI1]) (MS I1 J cc ss) _
  rw [hzI1]
  have hF := hF.trans rI1
  have := mwF_rng (g := g) (P := (g (2 * l + 1))) (e := (g (2 * l + 2))) hwi (by omega)
  refine ev_n (fr' := (79, [some (vr 135), some (vi (k : Int)), some (vi (l : Int)), some (vi (mwF g (g (2 * l + 1)) (g (2 * l + 2)))), some (vi 0), some (vi 1024), some (vi 0), none, none], [])) (S' := MS I1 J cc ss) 7 rfl ?_
  rw [beF_eq (d1 := 1024) (abs1000 hm0 hml) (by have := abs1000 hm0 hml; omega) 4]
  exact lp_rbe0 X _ _ cc ss (up2 I 135 4 0) k l hg hws hwp hwi hk hl hn0 _ _ _ _ rfl rfl hF
theorem rb_indifferent_x (X : AX) (I J : Nat → Nat → Int) (cc ss : Nat) {g : F1} (y z : Int) (hg : J 136 = g) (hws : WS g) (hwp : WP g) (hwi : WI g) (h : ¬ (0 ≤ y ∧ y < g 11)) : Ev X k_X9_indifferent (0, [some (vr 135), some (vi y), some (vi z), none, none], []) (MS I J cc ss) (fun o T => o = .inl (some (vi 0)) ∧ T = MS (up2 I 135 4 1) J cc ss) := by
  have q0 := hws.1
  have q1 := hws.2.1
  have q2 := hwp.1
  have q3 := hwp.2.1
  have q4 := hwi.1
  have q5 := hwi.2.1
  refine ev_n (fr' := (3, [some (vr 135), some (vi y), some (vi z), none, none], [vi y, vr 135, vr 135])) (S' := MS I J cc ss) 3 rfl ?_
  refine ev_cv rfl rfl rfl ⟨Nat.le_of_ble_eq_true rfl, Nat.le_of_ble_eq_true rfl⟩ (sp_isPart_r X _ _ _ _ y hg hwp) ?_
  show Ev X k_X9_indifferent (6, [some (vr 135), some (vi y), some (vi z), none, none], [vi (if 0 ≤ y ∧ y ≤ g 11 - 1 then 1 else 0), vr 135]) (MS I J cc ss) _
  refine ev_beq _ rfl (by decide) (fun (g1 : ¬ (0 ≤ y ∧ y ≤ g 11 - 1)) => ?_) (fun (g1 : 0 ≤ y ∧ y ≤ g 11 - 1) => False.elim ((show ¬ (0 ≤ y ∧ y ≤ g 11 - 1) from by omega) g1))
  show Ev X k_X9_indifferent (21, [some (vr 135), some (vi y), some (vi z), none, none], [vr 135]) (MS I J cc ss) _
  refine ev_n (fr' := (22, [some (vr 135), some (vi y), some (vi z), none, none], [vi 1, vr 135])) (S' := MS I J cc ss) 1 rfl ?_
  refine ev_n (fr' := (25, [some (vr 135), some (vi y), some (vi z), none, none], [])) (S' := MS (up2 I 135 4 1) J cc ss) 1 rfl ?_
  refine ev_n (fr' := (33, [some (vr 135), some (vi y), some (vi z), none, none], [vi 0])) (S' := MS (up2 I 135 4 1) J cc ss) 4 rfl ?_
  refine ev_r rfl rfl rfl ?_
  exact ⟨rfl, rfl⟩
theorem rb_indifferent_y (X : AX) (I J : Nat → Nat → Int) (cc ss : Nat) {g : F1} (p : Nat) (z : Int) (hg : J 136 = g) (hws : WS g) (hwp : WP g) (hwi : WI g) (hp : (p : Int) < g 11) (h : ¬ (0 ≤ z ∧ z < g 0)) : Ev X k_X9_indifferent (0, [some (vr 135), some (vi (p : Int)), some (vi z), none, none], []) (MS I J cc ss) (fun o T => o = .inl (some (vi 0)) ∧ T = MS (up2 I 135 4 1) J cc ss) := by
  have q0 := hws.1
  have q1 := hws.2.1
  have q2 := hwp.1
  have q3 := hwp.2.1
  have q4 := hwi.1
  have q5 := hwi.2.1
  refine ev_n (fr' := (3, [some (vr 135), some (vi (p : Int)), some (vi z), none, none], [vi (p : Int), vr 135, vr 135])) (S' := MS I J cc ss) 3 rfl ?_
  refine ev_cv rfl rfl rfl ⟨Nat.le_of_ble_eq_true rfl, Nat.le_of_ble_eq_true rfl⟩ (sp_isPart_r X _ _ _ _ (p : Int) hg hwp) ?_
  show Ev X k_X9_indifferent (6, [some (vr 135), some (vi (p : Int)), some (vi z), none, none], [vi (if 0 ≤ (p : Int) ∧ (p : Int) ≤ g 11 - 1 then 1 else 0), vr 135]) (MS I J cc ss) _
  refine ev_beq _ rfl (by decide) (fun (g1 : ¬ (0 ≤ (p : Int) ∧ (p : Int) ≤ g 11 - 1)) => False.elim (g1 (by omega))) (fun (g1 : 0 ≤ (p : Int) ∧ (p : Int) ≤ g 11 - 1) => ?_)
  show Ev X k_X9_indifferent (9, [some (vr 135), some (vi (p : Int)), some (vi z), none, none], [vr 135]) (MS I J cc ss) _
  refine ev_n (fr' := (11, [some (vr 135), some (vi (p : Int)), some (vi z), none, none], [vi z, vr 135, vr 135])) (S' := MS I J cc ss) 2 rfl ?_
  refine ev_cv rfl rfl rfl ⟨Nat.le_of_ble_eq_true rfl, Nat.le_of_ble_eq_true rfl⟩ (sp_isSize_r X _ _ _ _ z hg hws) ?_
  show Ev X k_X9_indifferent (14, [some (vr 135), some (vi (p : Int)), some (vi z), none, none], [vi (if 0 ≤ z ∧ z ≤ g 0 - 1 then 1 else 0), vr 135]) (MS I J cc ss) _
  refine ev_beq _ rfl (by decide) (fun (g2 : ¬ (0 ≤ z ∧ z ≤ g 0 - 1)) => ?_) (fun (g2 : 0 ≤ z ∧ z ≤ g 0 - 1) => False.elim ((show ¬ (0 ≤ z ∧ z ≤ g 0 - 1) from by omega) g2))
  show Ev X k_X9_indifferent (21, [some (vr 135), some (vi (p : Int)), some (vi z), none, none], [vr 135]) (MS I J cc ss) _
  refine ev_n (fr' := (22, [some (vr 135), some (vi (p : Int)), some (vi z), none, none], [vi 1, vr 135])) (S' := MS I J cc ss) 1 rfl ?_
  refine ev_n (fr' := (25, [some (vr 135), some (vi (p : Int)), some (vi z), none, none], [])) (S' := MS (up2 I 135 4 1) J cc ss) 1 rfl ?_
  refine ev_n (fr' := (33, [some (vr 135), some (vi (p : Int)), some (vi z), none, none], [vi 0])) (S' := MS (up2 I 135 4 1) J cc ss) 4 rfl ?_
  refine ev_r rfl rfl rfl ?_
  exact ⟨rfl, rfl⟩
theorem lp_rin (X : AX) (I J : Nat → Nat → Int) (cc ss : Nat) {g : F1} (I0 : F2) (p k : Nat) (hg : J 136 = g) (hws : WS g) (hwp : WP g) (hwi : WI g) (hp : (p : Int) < g 11) (hk : (k : Int) < g 0) (j : Nat) (z : Int) (hj : (j : Int) ≤ g 308) (hz : z = zeF (inF g p (g (2 * k + 1)) (g (2 * k + 2))) j) (hF : scrM I0 I) : Ev X k_X9_indifferent (39, [some (vr 135), some (vi (p : Int)), some (vi (k : Int)), some (vi z), some (vi (j : Int))], []) (MS I J cc ss) (PV cc ss (some (vi (zeF (inF g p (g (2 * k + 1)) (g (2 * k + 2))) (g 308).toNat))) (fun I' J' => J' = J ∧ scrM I0 I')) := by
  have q0 := hws.1
  have q1 := hws.2.1
  have q2 := hwp.1
  have q3 := hwp.2.1
  have q4 := hwi.1
  have q5 := hwi.2.1
  have hr := hws.2.2.1 k hk
  have hzr := zeF_rng (inF g p (g (2 * k + 1)) (g (2 * k + 2))) j
  refine ev_n (fr' := (49, [some (vr 135), some (vi (p : Int)), some (vi (k : Int)), some (vi z), some (vi (j : Int))], [vi 308, vr 136, vl (j : Int)])) (S' := MS I J cc ss) 5 rfl ?_
  refine ev_laN (j := 308) (z := (g 308)) rfl rfl (by omega) (by omega) (congrFun hg _) ?_
  show Ev X k_X9_indifferent (50, [some (vr 135), some (vi (p : Int)), some (vi (k : Int)), some (vi z), some (vi (j : Int))], [vl (g 308), vl (j : Int)]) (MS I J cc ss) _
  refine ev_lc (c := .ge) (off := 53) rfl rfl (by decide) (fun (g1 : (g 308) ≤ (j : Int)) => ?_) (fun (g1 : ¬ ((g 308) ≤ (j : Int))) => ?_)
  · show Ev X k_X9_indifferent (104, [some (vr 135), some (vi (p : Int)), some (vi (k : Int)), some (vi z), some (vi (j : Int))], []) (MS I J cc ss) _
    refine ev_n (fr' := (105, [some (vr 135), some (vi (p : Int)), some (vi (k : Int)), some (vi z), some (vi (j : Int))], [vi z])) (S' := MS I J cc ss) 1 rfl ?_
    refine ev_r rfl rfl rfl ?_
    exact ⟨_, _, rfl, congrArg (fun z => Sum.inl (some (vi z))) (by rw [hz, show (g 308).toNat = j by omega]), rfl, hF⟩
  · show Ev X k_X9_indifferent (54, [some (vr 135), some (vi (p : Int)), some (vi (k : Int)), some (vi z), some (vi (j : Int))], []) (MS I J cc ss) _
    refine ev_n (fr' := (58, [some (vr 135), some (vi (p : Int)), some (vi (k : Int)), some (vi z), some (vi (j : Int))], [vi (k : Int), vi (j : Int), vr 135])) (S' := MS I J cc ss) 3 rfl ?_
    refine ev_cp rfl rfl rfl ⟨Nat.le_of_ble_eq_true rfl, Nat.le_of_ble_eq_true rfl⟩ (sp_drawsAtW X _ _ _ _ j k hg hws hwp hwi (by omega) (by omega)) (fun I1 J q2 => ?_)
    obtain ⟨rfl, r1, hW, hD⟩ := q2
    show Ev X k_X9_indifferent (61, [some (vr 135), some (vi (p : Int)), some (vi (k : Int)), some (vi z), some (vi (j : Int))], []) (MS I1 J cc ss) _
    have hF := hF.trans r1.scr
    refine ev_n (fr' := (62, [some (vr 135), some (vi (p : Int)), some (vi (k : Int)), some (vi z), some (vi (j : Int))], [vr 135])) (S' := MS I1 J cc ss) 1 rfl ?_
    refine ev_cp rfl rfl rfl ⟨Nat.le_of_ble_eq_true rfl, Nat.le_of_ble_eq_true rfl⟩ (sp_setsAside X _ _ _ _ hD) (fun I3 J q4 => ?_)
    obtain ⟨rfl, rO, hE⟩ := q4
    show Ev X k_X9_indifferent (65, [some (vr 135), some (vi (p : Int)), some (vi (k : Int)), some (vi z), some (vi (j : Int))], []) (MS I3 J cc ss) _
    have hF := hF.trans rO.scr
    refine ev_n (fr' := (70, [some (vr 135), some (vi (p : Int)), some (vi (k : Int)), some (vi z), some (vi (j : Int))], [vi (k : Int), vr 135, vi (j : Int), vr 135])) (S' := MS I3 J cc ss) 4 rfl ?_
    refine ev_cv rfl rfl rfl ⟨Nat.le_of_ble_eq_true rfl, Nat.le_of_ble_eq_true rfl⟩ (sp_pixelsOf_r X _ _ _ _ k hg hws (by omega)) ?_
    show Ev X k_X9_indifferent (73, [some (vr 135), some (vi (p : Int)), some (vi (k : Int)), some (vi z), some (vi (j : Int))], [vi (g (2 * k + 1)), vi (j : Int), vr 135]) (MS I3 J cc ss) _
    refine ev_n (fr' := (75, [some (vr 135), some (vi (p : Int)), some (vi (k : Int)), some (vi z), some (vi (j : Int))], [vi (k : Int), vr 135, vi (g (2 * k + 1)), vi (j : Int), vr 135])) (S' := MS I3 J cc ss) 2 rfl ?_
    refine ev_cv rfl rfl rfl ⟨Nat.le_of_ble_eq_true rfl, Nat.le_of_ble_eq_true rfl⟩ (sp_extraOf_r X _ _ _ _ k hg hws (by omega)) ?_
    show Ev X k_X9_indifferent (78, [some (vr 135), some (vi (p : Int)), some (vi (k : Int)), some (vi z), some (vi (j : Int))], [vi (g (2 * k + 2)), vi (g (2 * k + 1)), vi (j : Int), vr 135]) (MS I3 J cc ss) _
    refine ev_n (fr' := (80, [some (vr 135), some (vi (p : Int)), some (vi (k : Int)), some (vi z), some (vi (j : Int))], [vi (p : Int), vi (-1), vi (g (2 * k + 2)), vi (g (2 * k + 1)), vi (j : Int), vr 135])) (S' := MS I3 J cc ss) 2 rfl ?_
    refine ev_cp rfl rfl rfl ⟨Nat.le_of_ble_eq_true rfl, Nat.le_of_ble_eq_true rfl⟩ (sp_draws X _ _ _ _ j (g (2 * k + 1)) (g (2 * k + 2)) (-1) (p : Int) (by omega) (by omega) hg hwp hwi (by omega)) (fun I5 J q6 => ?_)
    obtain ⟨rfl, rW, hW, hD⟩ := q6
    show Ev X k_X9_indifferent (83, [some (vr 135), some (vi (p : Int)), some (vi (k : Int)), some (vi z), some (vi (j : Int))], []) (MS I5 J cc ss) _
    have hF := hF.trans rW.scr
    have hE : DO I5 (icF g j (g (2 * k + 1)) (g (2 * k + 2))) := fun y x hy hx => by rw [rW.1 141 (by decide) (by decide)]; exact hE y x hy hx
    refine ev_n (fr' := (85, [some (vr 135), some (vi (p : Int)), some (vi (k : Int)), some (vi z), some (vi (j : Int))], [vr 135, vi z])) (S' := MS I5 J cc ss) 2 rfl ?_
    refine ev_cv rfl rfl rfl ⟨Nat.le_of_ble_eq_true rfl, Nat.le_of_ble_eq_true rfl⟩ (sp_differs X _ _ _ _ hD hE) ?_
    show Ev X k_X9_indifferent (88, [some (vr 135), some (vi (p : Int)), some (vi (k : Int)), some (vi z), some (vi (j : Int))], [vi (cntB (fun y x => (iconB g j (-1) (p : Int) (g (2 * k + 1)) (g (2 * k + 2))) y x ^^ (icF g j (g (2 * k + 1)) (g (2 * k + 2))) y x)), vi z]) (MS I5 J cc ss) _
    refine ev_if (c := .ne) (off := 7) rfl (by decide) (fun (g2 : (cntB (fun y x => (iconB g j (-1) (p : Int) (g (2 * k + 1)) (g (2 * k + 2))) y x ^^ (icF g j (g (2 * k + 1)) (g (2 * k + 2))) y x)) ≠ 0) => ?_) (fun (g2 : ¬ ((cntB (fun y x => (iconB g j (-1) (p : Int) (g (2 * k + 1)) (g (2 * k + 2))) y x ^^ (icF g j (g (2 * k + 1)) (g (2 * k + 2))) y x)) ≠ 0)) => ?_)
    · show Ev X k_X9_indifferent (95, [some (vr 135), some (vi (p : Int)), some (vi (k : Int)), some (vi z), some (vi (j : Int))], [vi z]) (MS I5 J cc ss) _
      refine ev_n (fr' := (96, [some (vr 135), some (vi (p : Int)), some (vi (k : Int)), some (vi z), some (vi (j : Int))], [vi 0, vi z])) (S' := MS I5 J cc ss) 1 rfl ?_
      refine ev_add (z := z) rfl (by omega) (by omega) (by omega) ?_
      show Ev X k_X9_indifferent (97, [some (vr 135), some (vi (p : Int)), some (vi (k : Int)), some (vi z), some (vi (j : Int))], [vi z]) (MS I5 J cc ss) _
      refine ev_n (fr' := (98, [some (vr 135), some (vi (p : Int)), some (vi (k : Int)), some (vi z), some (vi (j : Int))], [])) (S' := MS I5 J cc ss) 1 rfl ?_
      refine ev_inc (z := (j : Int) + 1) rfl rfl (by omega) (by omega) (by omega) rfl ?_
      show Ev X k_X9_indifferent (101, [some (vr 135), some (vi (p : Int)), some (vi (k : Int)), some (vi z), some (vi ((j : Int) + 1))], []) (MS I5 J cc ss) _
      refine ev_n (fr' := (39, [some (vr 135), some (vi (p : Int)), some (vi (k : Int)), some (vi z), some (vi ((j : Int) + 1))], [])) (S' := MS I5 J cc ss) 1 rfl ?_
      have hx : cntB (fun y x => (iconB g j (-1) (p : Int) (g (2 * k + 1)) (g (2 * k + 2))) y x ^^ (icF g j (g (2 * k + 1)) (g (2 * k + 2))) y x) = inF g p (g (2 * k + 1)) (g (2 * k + 2)) j := congrArg cntB (funext (fun y => funext (fun x => Bool.xor_comm _ _)))
      rw [hx] at g2
      exact lp_rin X _ _ cc ss I0 p k hg hws hwp hwi hp hk (j + 1) (z) (by omega) (by
        show _ = zeF (inF g p (g (2 * k + 1)) (g (2 * k + 2))) j + _
        rw [hz]; rw [if_neg g2]; omega) hF
    · show Ev X k_X9_indifferent (91, [some (vr 135), some (vi (p : Int)), some (vi (k : Int)), some (vi z), some (vi (j : Int))], [vi z]) (MS I5 J cc ss) _
      refine ev_n (fr' := (96, [some (vr 135), some (vi (p : Int)), some (vi (k : Int)), some (vi z), some (vi (j : Int))], [vi 1, vi z])) (S' := MS I5 J cc ss) 2 rfl ?_
      refine ev_add (z := z + 1) rfl (by omega) (by omega) (by omega) ?_
      show Ev X k_X9_indifferent (97, [some (vr 135), some (vi (p : Int)), some (vi (k : Int)), some (vi z), some (vi (j : Int))], [vi (z + 1)]) (MS I5 J cc ss) _
      refine ev_n (fr' := (98, [some (vr 135), some (vi (p : Int)), some (vi (k : Int)), some (vi (z + 1)), some (vi (j : Int))], [])) (S' := MS I5 J cc ss) 1 rfl ?_
      refine ev_inc (z := (j : Int) + 1) rfl rfl (by omega) (by omega) (by omega) rfl ?_
      show Ev X k_X9_indifferent (101, [some (vr 135), some (vi (p : Int)), some (vi (k : Int)), some (vi (z + 1)), some (vi ((j : Int) + 1))], []) (MS I5 J cc ss) _
      refine ev_n (fr' := (39, [some (vr 135), some (vi (p : Int)), some (vi (k : Int)), some (vi (z + 1)), some (vi ((j : Int) + 1))], [])) (S' := MS I5 J cc ss) 1 rfl ?_
      have hx : cntB (fun y x => (iconB g j (-1) (p : Int) (g (2 * k + 1)) (g (2 * k + 2))) y x ^^ (icF g j (g (2 * k + 1)) (g (2 * k + 2))) y x) = inF g p (g (2 * k + 1)) (g (2 * k + 2)) j := congrArg cntB (funext (fun y => funext (fun x => Bool.xor_comm _ _)))
      rw [hx] at g2
      exact lp_rin X _ _ cc ss I0 p k hg hws hwp hwi hp hk (j + 1) (z + 1) (by omega) (by
        show _ = zeF (inF g p (g (2 * k + 1)) (g (2 * k + 2))) j + _
        rw [hz]; rw [if_pos (Decidable.of_not_not g2)]) hF
termination_by 9 - j
decreasing_by all_goals omega
theorem rb_indifferent (X : AX) (I J : Nat → Nat → Int) (cc ss : Nat) {g : F1} (p k : Nat) (hg : J 136 = g) (hws : WS g) (hwp : WP g) (hwi : WI g) (hp : (p : Int) < g 11) (hk : (k : Int) < g 0) : Ev X k_X9_indifferent (0, [some (vr 135), some (vi (p : Int)), some (vi (k : Int)), none, none], []) (MS I J cc ss) (PV cc ss (some (vi (zeF (inF g p (g (2 * k + 1)) (g (2 * k + 2))) (g 308).toNat))) (fun I' J' => J' = J ∧ scrM (up2 I 135 4 0) I')) := by
  have q0 := hws.1
  have q1 := hws.2.1
  have q2 := hwp.1
  have q3 := hwp.2.1
  have q4 := hwi.1
  have q5 := hwi.2.1
  refine ev_n (fr' := (3, [some (vr 135), some (vi (p : Int)), some (vi (k : Int)), none, none], [vi (p : Int), vr 135, vr 135])) (S' := MS I J cc ss) 3 rfl ?_
  refine ev_cv rfl rfl rfl ⟨Nat.le_of_ble_eq_true rfl, Nat.le_of_ble_eq_true rfl⟩ (sp_isPart_r X _ _ _ _ (p : Int) hg hwp) ?_
  show Ev X k_X9_indifferent (6, [some (vr 135), some (vi (p : Int)), some (vi (k : Int)), none, none], [vi (if 0 ≤ (p : Int) ∧ (p : Int) ≤ g 11 - 1 then 1 else 0), vr 135]) (MS I J cc ss) _
  refine ev_beq _ rfl (by decide) (fun (g1 : ¬ (0 ≤ (p : Int) ∧ (p : Int) ≤ g 11 - 1)) => False.elim (g1 (by omega))) (fun (g1 : 0 ≤ (p : Int) ∧ (p : Int) ≤ g 11 - 1) => ?_)
  show Ev X k_X9_indifferent (9, [some (vr 135), some (vi (p : Int)), some (vi (k : Int)), none, none], [vr 135]) (MS I J cc ss) _
  refine ev_n (fr' := (11, [some (vr 135), some (vi (p : Int)), some (vi (k : Int)), none, none], [vi (k : Int), vr 135, vr 135])) (S' := MS I J cc ss) 2 rfl ?_
  refine ev_cv rfl rfl rfl ⟨Nat.le_of_ble_eq_true rfl, Nat.le_of_ble_eq_true rfl⟩ (sp_isSize_r X _ _ _ _ (k : Int) hg hws) ?_
  show Ev X k_X9_indifferent (14, [some (vr 135), some (vi (p : Int)), some (vi (k : Int)), none, none], [vi (if 0 ≤ (k : Int) ∧ (k : Int) ≤ g 0 - 1 then 1 else 0), vr 135]) (MS I J cc ss) _
  refine ev_beq _ rfl (by decide) (fun (g2 : ¬ (0 ≤ (k : Int) ∧ (k : Int) ≤ g 0 - 1)) => False.elim (g2 (by omega))) (fun (g2 : 0 ≤ (k : Int) ∧ (k : Int) ≤ g 0 - 1) => ?_)
  show Ev X k_X9_indifferent (17, [some (vr 135), some (vi (p : Int)), some (vi (k : Int)), none, none], [vr 135]) (MS I J cc ss) _
  refine ev_n (fr' := (22, [some (vr 135), some (vi (p : Int)), some (vi (k : Int)), none, none], [vi 0, vr 135])) (S' := MS I J cc ss) 2 rfl ?_
  refine ev_n (fr' := (25, [some (vr 135), some (vi (p : Int)), some (vi (k : Int)), none, none], [])) (S' := MS (up2 I 135 4 0) J cc ss) 1 rfl ?_
  refine ev_n (fr' := (39, [some (vr 135), some (vi (p : Int)), some (vi (k : Int)), some (vi 0), some (vi 0)], [])) (S' := MS (up2 I 135 4 0) J cc ss) 7 rfl ?_
  exact lp_rin X _ _ cc ss (up2 I 135 4 0) p k hg hws hwp hwi hp hk 0 0 (by omega) rfl (scrM.refl _)
