/-! ICONS AT SIZES, the reference (printed by gen/g64.py) -/
theorem sp_drawsAt (X : AX) (I J : Nat → Nat → Int) (cc ss : Nat) {g : F1} (i k : Nat) (hg : J 136 = g) (hwp : WP g) (hwi : WI g) (hws : WS g) (hi : (i : Int) < g 308) (hk : (k : Int) < g 0) : Ev X k_X9_drawsAt (0, [some (vr 135), some (vi (i : Int)), some (vi (k : Int))], []) (MS I J cc ss) (PV cc ss none (fun I' J' => J' = J ∧ scrM I I' ∧ I' 135 17 = g (2 * k + 1) ∧ DM I' (icF g i (g (2 * k + 1)) (g (2 * k + 2))))) := by
  have hF := scrM.refl I
  have hr := hws.2.2.1 k hk
  refine ev_n (fr' := (4, [some (vr 135), some (vi (i : Int)), some (vi (k : Int))], [vi (k : Int), vr 135, vi (i : Int), vr 135])) (S' := MS I J cc ss) 4 rfl ?_
  refine ev_cv rfl rfl rfl ⟨Nat.le_of_ble_eq_true rfl, Nat.le_of_ble_eq_true rfl⟩ (sp_pixelsOf_r X _ _ _ _ k hg hws (by omega)) ?_
  show Ev X k_X9_drawsAt (7, [some (vr 135), some (vi (i : Int)), some (vi (k : Int))], [vi (g (2 * k + 1)), vi (i : Int), vr 135]) (MS I J cc ss) _
  refine ev_n (fr' := (9, [some (vr 135), some (vi (i : Int)), some (vi (k : Int))], [vi (k : Int), vr 135, vi (g (2 * k + 1)), vi (i : Int), vr 135])) (S' := MS I J cc ss) 2 rfl ?_
  refine ev_cv rfl rfl rfl ⟨Nat.le_of_ble_eq_true rfl, Nat.le_of_ble_eq_true rfl⟩ (sp_extraOf_r X _ _ _ _ k hg hws (by omega)) ?_
  show Ev X k_X9_drawsAt (12, [some (vr 135), some (vi (i : Int)), some (vi (k : Int))], [vi (g (2 * k + 2)), vi (g (2 * k + 1)), vi (i : Int), vr 135]) (MS I J cc ss) _
  refine ev_n (fr' := (14, [some (vr 135), some (vi (i : Int)), some (vi (k : Int))], [vi (-1), vi (-1), vi (g (2 * k + 2)), vi (g (2 * k + 1)), vi (i : Int), vr 135])) (S' := MS I J cc ss) 2 rfl ?_
  refine ev_cp rfl rfl rfl ⟨Nat.le_of_ble_eq_true rfl, Nat.le_of_ble_eq_true rfl⟩ (sp_draws X _ _ _ _ i (g (2 * k + 1)) (g (2 * k + 2)) (-1) (-1) (by omega) (by omega) hg hwp hwi (by omega)) (fun I1 J q2 => ?_)
  obtain ⟨rfl, rI1, hW, hD⟩ := q2
  show Ev X k_X9_drawsAt (17, [some (vr 135), some (vi (i : Int)), some (vi (k : Int))], []) (MS I1 J cc ss) _
  have hF := hF.trans rI1.scr
  refine ev_r rfl rfl rfl ?_
  exact ⟨_, _, rfl, rfl, rfl, hF, hW, hD⟩
theorem sp_weightOf (X : AX) (I J : Nat → Nat → Int) (cc ss : Nat) {g : F1} (i : Nat) (P e : Int) (hg : J 136 = g) (hwp : WP g) (hwi : WI g) (hQ4 : 4 ≤ P ∧ P ≤ 32) (he : -2 ≤ e ∧ e ≤ 2) (hi : (i : Int) < g 308) : Ev X k_X9_weightOf (0, [some (vr 135), some (vi (i : Int)), some (vi P), some (vi e)], []) (MS I J cc ss) (PZ cc ss (fun z I' J' => J' = J ∧ scrM I I' ∧ z = wtF g P e i)) := by
  have hF := scrM.refl I
  have m1 := mul_rng (u := P) (P := P) (a := 32) (by omega) (by omega) (by omega) (by omega) (by omega)
  have m2 : 4 * 4 ≤ P * P := Int.mul_le_mul hQ4.1 hQ4.1 (by omega) (by omega)
  have h2 := cntB_rng (iconB g i (-1) (-1) P e)
  refine ev_n (fr' := (6, [some (vr 135), some (vi (i : Int)), some (vi P), some (vi e)], [vi (-1), vi (-1), vi e, vi P, vi (i : Int), vr 135])) (S' := MS I J cc ss) 6 rfl ?_
  refine ev_cp rfl rfl rfl ⟨Nat.le_of_ble_eq_true rfl, Nat.le_of_ble_eq_true rfl⟩ (sp_draws X _ _ _ _ i P e (-1) (-1) (by omega) (by omega) hg hwp hwi (by omega)) (fun I1 J q2 => ?_)
  obtain ⟨rfl, rI1, hW, hD⟩ := q2
  show Ev X k_X9_weightOf (9, [some (vr 135), some (vi (i : Int)), some (vi P), some (vi e)], []) (MS I1 J cc ss) _
  have hF := hF.trans rI1.scr
  refine ev_n (fr' := (13, [some (vr 135), some (vi (i : Int)), some (vi P), some (vi e)], [vr 135, vi 1000])) (S' := MS I1 J cc ss) 2 rfl ?_
  refine ev_cv rfl rfl rfl ⟨Nat.le_of_ble_eq_true rfl, Nat.le_of_ble_eq_true rfl⟩ (sp_inkNow X _ _ _ _ hD) ?_
  show Ev X k_X9_weightOf (16, [some (vr 135), some (vi (i : Int)), some (vi P), some (vi e)], [vi (cntB (iconB g i (-1) (-1) P e)), vi 1000]) (MS I1 J cc ss) _
  refine ev_mul (z := 1000 * (cntB (iconB g i (-1) (-1) P e))) rfl (by omega) (by omega) (by omega) ?_
  show Ev X k_X9_weightOf (17, [some (vr 135), some (vi (i : Int)), some (vi P), some (vi e)], [vi (1000 * (cntB (iconB g i (-1) (-1) P e)))]) (MS I1 J cc ss) _
  refine ev_n (fr' := (19, [some (vr 135), some (vi (i : Int)), some (vi P), some (vi e)], [vi P, vi P, vi (1000 * (cntB (iconB g i (-1) (-1) P e)))])) (S' := MS I1 J cc ss) 2 rfl ?_
  refine ev_mul (z := (P * P)) rfl (by omega) (by omega) (by omega) ?_
  show Ev X k_X9_weightOf (20, [some (vr 135), some (vi (i : Int)), some (vi P), some (vi e)], [vi (P * P), vi (1000 * (cntB (iconB g i (-1) (-1) P e)))]) (MS I1 J cc ss) _
  refine ev_div (z := (1000 * (cntB (iconB g i (-1) (-1) P e))) / (P * P)) rfl (by omega) (by omega) rfl ?_
  show Ev X k_X9_weightOf (21, [some (vr 135), some (vi (i : Int)), some (vi P), some (vi e)], [vi ((1000 * (cntB (iconB g i (-1) (-1) P e))) / (P * P))]) (MS I1 J cc ss) _
  refine ev_r rfl rfl rfl ?_
  exact ⟨_, _, _, rfl, rfl, rfl, hF, rfl⟩
theorem lp_rmw (X : AX) (I J : Nat → Nat → Int) (cc ss : Nat) {g : F1} (I0 : F2) (P e : Int) (hg : J 136 = g) (hwp : WP g) (hwi : WI g) (hQ4 : 4 ≤ P ∧ P ≤ 32) (he : -2 ≤ e ∧ e ≤ 2) (h0 : g 308 ≠ 0) (k : Nat) (z : Int) (hk : (k : Int) ≤ g 308) (hz : z = sumF (wtF g P e) k) (hF : scrM I0 I) : Ev X k_X9_meanWeight (5, [some (vr 135), some (vi P), some (vi e), some (vi z), some (vi (k : Int))], []) (MS I J cc ss) (PZ cc ss (fun z I' J' => J' = J ∧ scrM I0 I' ∧ z = mwF g P e)) := by
  have hb := sumF_rng (f := wtF g P e) (b := 1000) k (fun i _ => wtF_rng hQ4 i)
  have h8 := hwi.2.1
  have h80 := hwi.1
  refine ev_n (fr' := (15, [some (vr 135), some (vi P), some (vi e), some (vi z), some (vi (k : Int))], [vi 308, vr 136, vl (k : Int)])) (S' := MS I J cc ss) 5 rfl ?_
  refine ev_laN (j := 308) (z := (g 308)) rfl rfl (by omega) (by omega) (congrFun hg _) ?_
  show Ev X k_X9_meanWeight (16, [some (vr 135), some (vi P), some (vi e), some (vi z), some (vi (k : Int))], [vl (g 308), vl (k : Int)]) (MS I J cc ss) _
  refine ev_lc (c := .ge) (off := 20) rfl rfl (by decide) (fun (g1 : (g 308) ≤ (k : Int)) => ?_) (fun (g1 : ¬ ((g 308) ≤ (k : Int))) => ?_)
  · show Ev X k_X9_meanWeight (37, [some (vr 135), some (vi P), some (vi e), some (vi z), some (vi (k : Int))], []) (MS I J cc ss) _
    refine ev_n (fr' := (45, [some (vr 135), some (vi P), some (vi e), some (vi z), some (vi (k : Int))], [vi 308, vr 136, vi z])) (S' := MS I J cc ss) 4 rfl ?_
    refine ev_laN (j := 308) (z := (g 308)) rfl rfl (by omega) (by omega) (congrFun hg _) ?_
    show Ev X k_X9_meanWeight (46, [some (vr 135), some (vi P), some (vi e), some (vi z), some (vi (k : Int))], [vl (g 308), vi z]) (MS I J cc ss) _
    refine ev_l2i rfl (by omega) (by omega) ?_
    show Ev X k_X9_meanWeight (47, [some (vr 135), some (vi P), some (vi e), some (vi z), some (vi (k : Int))], [vi (g 308), vi z]) (MS I J cc ss) _
    refine ev_div (z := z / g 308) rfl (by omega) (by omega) rfl ?_
    show Ev X k_X9_meanWeight (48, [some (vr 135), some (vi P), some (vi e), some (vi z), some (vi (k : Int))], [vi (z / g 308)]) (MS I J cc ss) _
    refine ev_r rfl rfl rfl ?_
    exact ⟨_, _, _, rfl, rfl, rfl, hF, by unfold mwF; rw [if_neg h0, hz, show (g 308).toNat = k by omega]⟩
  · show Ev X k_X9_meanWeight (20, [some (vr 135), some (vi P), some (vi e), some (vi z), some (vi (k : Int))], []) (MS I J cc ss) _
    refine ev_n (fr' := (26, [some (vr 135), some (vi P), some (vi e), some (vi z), some (vi (k : Int))], [vi e, vi P, vi (k : Int), vr 135, vi z])) (S' := MS I J cc ss) 5 rfl ?_
    refine ev_cz rfl rfl rfl ⟨Nat.le_of_ble_eq_true rfl, Nat.le_of_ble_eq_true rfl⟩ (sp_weightOf X _ _ _ _ k P e hg hwp hwi (by omega) (by omega) (by omega)) (fun zI1 I1 J q2 => ?_)
    obtain ⟨rfl, rI1, hzI1⟩ := q2
    show Ev X k_X9_meanWeight (29, [some (vr 135), some (vi P), some (vi e), some (vi z), some (vi (k : Int))], [vi zI1, vi z]) (MS I1 J cc ss) _
    rw [hzI1]
    have hF := hF.trans rI1
    have := wtF_rng (g := g) (P := P) (e := e) (by omega) k
    refine ev_add (z := z + (wtF g P e k)) rfl (by omega) (by omega) (by omega) ?_
    show Ev X k_X9_meanWeight (30, [some (vr 135), some (vi P), some (vi e), some (vi z), some (vi (k : Int))], [vi (z + (wtF g P e k))]) (MS I1 J cc ss) _
    refine ev_n (fr' := (31, [some (vr 135), some (vi P), some (vi e), some (vi (z + (wtF g P e k))), some (vi (k : Int))], [])) (S' := MS I1 J cc ss) 1 rfl ?_
    refine ev_inc (z := (k : Int) + 1) rfl rfl (by omega) (by omega) (by omega) rfl ?_
    show Ev X k_X9_meanWeight (34, [some (vr 135), some (vi P), some (vi e), some (vi (z + (wtF g P e k))), some (vi ((k : Int) + 1))], []) (MS I1 J cc ss) _
    refine ev_n (fr' := (5, [some (vr 135), some (vi P), some (vi e), some (vi (z + (wtF g P e k))), some (vi ((k : Int) + 1))], [])) (S' := MS I1 J cc ss) 1 rfl ?_
    exact lp_rmw X _ _ cc ss I0 P e hg hwp hwi hQ4 he h0 (k + 1) (z + (wtF g P e k)) (by omega) (by rw [hz]; rfl) hF
termination_by 9 - k
decreasing_by all_goals omega
theorem sp_rmeanWeight (X : AX) (I J : Nat → Nat → Int) (cc ss : Nat) {g : F1} (P e : Int) (hg : J 136 = g) (hwp : WP g) (hwi : WI g) (hQ4 : 4 ≤ P ∧ P ≤ 32) (he : -2 ≤ e ∧ e ≤ 2) (h0 : g 308 ≠ 0) : Ev X k_X9_meanWeight (0, [some (vr 135), some (vi P), some (vi e), none, none], []) (MS I J cc ss) (PZ cc ss (fun z I' J' => J' = J ∧ scrM I I' ∧ z = mwF g P e)) := by
  refine ev_n (fr' := (5, [some (vr 135), some (vi P), some (vi e), some (vi 0), some (vi 0)], [])) (S' := MS I J cc ss) 4 rfl ?_
  exact lp_rmw X I J cc ss I P e hg hwp hwi hQ4 he h0 0 0 (by have := hwi.1; omega) rfl (scrM.refl _)
theorem sp_topology (X : AX) (I J : Nat → Nat → Int) (cc ss : Nat) {g : F1} (i n : Nat) (e : Int) (hg : J 136 = g) (hwp : WP g) (hwi : WI g) (hn32 : n ≤ 32) (he : -2 ≤ e ∧ e ≤ 2) (hi : (i : Int) < g 308) : Ev X k_X9_topology (0, [some (vr 135), some (vi (i : Int)), some (vi (n : Int)), some (vi e)], []) (MS I J cc ss) (PZ cc ss (fun z I' J' => J' = J ∧ scrM I I' ∧ z = tpF g i n e)) := by
  have hF := scrM.refl I
  refine ev_n (fr' := (6, [some (vr 135), some (vi (i : Int)), some (vi (n : Int)), some (vi e)], [vi (-1), vi (-1), vi e, vi (n : Int), vi (i : Int), vr 135])) (S' := MS I J cc ss) 6 rfl ?_
  refine ev_cp rfl rfl rfl ⟨Nat.le_of_ble_eq_true rfl, Nat.le_of_ble_eq_true rfl⟩ (sp_draws X _ _ _ _ i (n : Int) e (-1) (-1) (by omega) (by omega) hg hwp hwi (by omega)) (fun I1 J q2 => ?_)
  obtain ⟨rfl, rI1, hW, hD⟩ := q2
  show Ev X k_X9_topology (9, [some (vr 135), some (vi (i : Int)), some (vi (n : Int)), some (vi e)], []) (MS I1 J cc ss) _
  have hF := hF.trans rI1.scr
  refine ev_n (fr' := (14, [some (vr 135), some (vi (i : Int)), some (vi (n : Int)), some (vi e)], [vi 1, vr 135, vi 1024])) (S' := MS I1 J cc ss) 3 rfl ?_
  refine ev_cz rfl rfl rfl ⟨Nat.le_of_ble_eq_true rfl, Nat.le_of_ble_eq_true rfl⟩ (sp_groups1 X _ _ _ _ hn32 hW hD) (fun zg1 I3 J q4 => ?_)
  obtain ⟨rfl, rI3, hz1⟩ := q4
  show Ev X k_X9_topology (17, [some (vr 135), some (vi (i : Int)), some (vi (n : Int)), some (vi e)], [vi zg1, vi 1024]) (MS I3 J cc ss) _
  have hF := hF.trans rI3.scr
  have hW := (rI3.2 17 (by decide)).trans hW
  have hD := DM.cell (rI3.1 140 (by decide) (by decide) (by decide)) hD
  rw [frO_pieces (fun y x q => by have := iconB_sup q; omega)] at hz1
  have hgr1 := grQ_rng (n := n) (dg := true) (ins := false) (O := icF g i (n : Int) e) (n * n)
  have hnn : n * n ≤ 32 * 32 := Nat.mul_le_mul hn32 hn32
  have hz1b : zg1 = grQ n true false (icF g i (n : Int) e) (n * n) := hz1
  refine ev_mul (z := 1024 * zg1) rfl (by omega) (by omega) (by omega) ?_
  show Ev X k_X9_topology (18, [some (vr 135), some (vi (i : Int)), some (vi (n : Int)), some (vi e)], [vi (1024 * zg1)]) (MS I3 J cc ss) _
  refine ev_n (fr' := (20, [some (vr 135), some (vi (i : Int)), some (vi (n : Int)), some (vi e)], [vi 0, vr 135, vi (1024 * zg1)])) (S' := MS I3 J cc ss) 2 rfl ?_
  refine ev_cz rfl rfl rfl ⟨Nat.le_of_ble_eq_true rfl, Nat.le_of_ble_eq_true rfl⟩ (sp_groups0 X _ _ _ _ hn32 hW hD) (fun zg0 I5 J q6 => ?_)
  obtain ⟨rfl, rI5, hz0⟩ := q6
  show Ev X k_X9_topology (23, [some (vr 135), some (vi (i : Int)), some (vi (n : Int)), some (vi e)], [vi zg0, vi (1024 * zg1)]) (MS I5 J cc ss) _
  have hF := hF.trans rI5.scr
  have hW := (rI5.2 17 (by decide)).trans hW
  have hD := DM.cell (rI5.1 140 (by decide) (by decide) (by decide)) hD
  rw [frO_holes] at hz0
  have hgr0 := grQ_rng (n := n) (dg := false) (ins := true) (O := holB (icF g i (n : Int) e) n) (n * n)
  have hnn : n * n ≤ 32 * 32 := Nat.mul_le_mul hn32 hn32
  have hz0b : zg0 = grQ n false true (holB (icF g i (n : Int) e) n) (n * n) := hz0
  refine ev_add (z := 1024 * zg1 + zg0) rfl (by omega) (by omega) (by omega) ?_
  show Ev X k_X9_topology (24, [some (vr 135), some (vi (i : Int)), some (vi (n : Int)), some (vi e)], [vi (1024 * zg1 + zg0)]) (MS I5 J cc ss) _
  refine ev_r rfl rfl rfl ?_
  exact ⟨_, _, _, rfl, rfl, rfl, hF, by unfold tpF; rw [← hz1, ← hz0]⟩
