/-! PUBLIC CHANGES, class, undo and moves (printed by gen/g72.py) -/
theorem sp_isShift8 (X : AX) (I J : Nat → Nat → Int) (cc ss : Nat) (x y : Int) : Ev X k_X8_isShift (0, [some (vi x), some (vi y)], []) (MS I J cc ss) (fun o T => o = .inl (some (vi (if (-48 ≤ x ∧ x ≤ 48) ∧ (-48 ≤ y ∧ y ≤ 48) then 1 else 0))) ∧ T = MS I J cc ss) := by
  refine ev_n (fr' := (5, [some (vi x), some (vi y)], [vi 48, vi (-48), vi x])) (S' := MS I J cc ss) 3 rfl ?_
  refine ev_cv rfl rfl rfl ⟨Nat.le_of_ble_eq_true rfl, Nat.le_of_ble_eq_true rfl⟩ (sp_within X _ x (-48) 48 ) ?_
  show Ev X k_X8_isShift (8, [some (vi x), some (vi y)], [vi (if -48 ≤ x ∧ x ≤ 48 then 1 else 0)]) (MS I J cc ss) _
  refine ev_beq _ rfl (by decide) (fun (g1 : ¬ (-48 ≤ x ∧ x ≤ 48)) => ?_) (fun (g1 : -48 ≤ x ∧ x ≤ 48) => ?_)
  · show Ev X k_X8_isShift (26, [some (vi x), some (vi y)], []) (MS I J cc ss) _
    refine ev_n (fr' := (27, [some (vi x), some (vi y)], [vi 0])) (S' := MS I J cc ss) 1 rfl ?_
    refine ev_r rfl rfl rfl ?_
    exact ⟨congrArg (fun z => Sum.inl (some (vi z))) (by first | rfl | (rw [if_pos (by omega)]) | (rw [if_neg (by omega)]) | (simp only [*]; done) | omega), rfl⟩
  · show Ev X k_X8_isShift (11, [some (vi x), some (vi y)], []) (MS I J cc ss) _
    refine ev_n (fr' := (16, [some (vi x), some (vi y)], [vi 48, vi (-48), vi y])) (S' := MS I J cc ss) 3 rfl ?_
    refine ev_cv rfl rfl rfl ⟨Nat.le_of_ble_eq_true rfl, Nat.le_of_ble_eq_true rfl⟩ (sp_within X _ y (-48) 48 ) ?_
    show Ev X k_X8_isShift (19, [some (vi x), some (vi y)], [vi (if -48 ≤ y ∧ y ≤ 48 then 1 else 0)]) (MS I J cc ss) _
    refine ev_beq _ rfl (by decide) (fun (g2 : ¬ (-48 ≤ y ∧ y ≤ 48)) => ?_) (fun (g2 : -48 ≤ y ∧ y ≤ 48) => ?_)
    · show Ev X k_X8_isShift (26, [some (vi x), some (vi y)], []) (MS I J cc ss) _
      refine ev_n (fr' := (27, [some (vi x), some (vi y)], [vi 0])) (S' := MS I J cc ss) 1 rfl ?_
      refine ev_r rfl rfl rfl ?_
      exact ⟨congrArg (fun z => Sum.inl (some (vi z))) (by first | rfl | (rw [if_pos (by omega)]) | (rw [if_neg (by omega)]) | (simp only [*]; done) | omega), rfl⟩
    · show Ev X k_X8_isShift (22, [some (vi x), some (vi y)], []) (MS I J cc ss) _
      refine ev_n (fr' := (27, [some (vi x), some (vi y)], [vi 1])) (S' := MS I J cc ss) 2 rfl ?_
      refine ev_r rfl rfl rfl ?_
      exact ⟨congrArg (fun z => Sum.inl (some (vi z))) (by first | rfl | (rw [if_pos (by omega)]) | (rw [if_neg (by omega)]) | (simp only [*]; done) | omega), rfl⟩
theorem shp_rng {g : F1} (hwp : WP g) {p s : Nat} (hp : (p : Int) < g 11) (hs : (s : Int) < g (37 * p + 12)) : ∀ j : Nat, j < 6 → 0 ≤ g (37 * p + 6 * s + j + 13) ∧ g (37 * p + 6 * s + j + 13) ≤ 48 := by
  intro j hj
  obtain ⟨h1, h2, h3⟩ := (hwp.2.2 p hp).2.2 s hs
  by_cases h0 : j = 0
  · subst h0; rw [Nat.add_zero]; omega
  · have h4 := h3 j (by omega) (by omega)
    have h5 := lowF_rng (g (37 * p + 6 * s + 13)) j
    have h6 := highF_rng (g (37 * p + 6 * s + 13)) j
    omega
theorem sp_depth (X : AX) (I J : Nat → Nat → Int) (cc ss : Nat) {hs : Nat → F1} {m : Nat} (hH : Hist I J hs m) : Ev X k_X1_depth (0, [some (vr 13)], []) (MS I J cc ss) (fun o T => o = .inl (some (vi (m : Int))) ∧ T = MS I J cc ss) := by
  refine ev_n (fr' := (4, [some (vr 13)], [vi (I 13 2)])) (S' := MS I J cc ss) 2 rfl ?_
  refine ev_eqi (hH.depth) ?_
  show Ev X k_X1_depth (4, [some (vr 13)], [vi (m : Int)]) (MS I J cc ss) _
  refine ev_r rfl rfl rfl ?_
  exact ⟨rfl, rfl⟩
theorem pb_undo_x (X : AX) (I J : Nat → Nat → Int) (cc ss : Nat) {hs : Nat → F1} {m : Nat} (hH : Hist I J hs m) (h : m = 0) : Ev X k_X8_undo (0, [some (vr 0)], []) (MS I J cc ss) (fun o T => o = .inr 0 ∧ T = MS I J (cc + 1) (ss + 6)) := by
  refine ev_n (fr' := (4, [some (vr 0)], [vr 13])) (S' := MS I J cc ss) 2 rfl ?_
  refine ev_cv rfl rfl rfl ⟨Nat.le_of_ble_eq_true rfl, Nat.le_of_ble_eq_true rfl⟩ (sp_depth X _ _ _ _ hH) ?_
  show Ev X k_X8_undo (7, [some (vr 0)], [vi (m : Int)]) (MS I J cc ss) _
  refine ev_if (c := .le) (off := 7) rfl (by decide) (fun (g1 : (m : Int) ≤ 0) => ?_) (fun (g1 : ¬ ((m : Int) ≤ 0)) => False.elim (by omega))
  show Ev X k_X8_undo (14, [some (vr 0)], []) (MS I J cc ss) _
  refine ev_n (fr' := (15, [some (vr 0)], [vi 0])) (S' := MS I J cc ss) 1 rfl ?_
  refine ev_cx rfl rfl rfl ⟨Nat.le_of_ble_eq_true rfl, Nat.le_of_ble_eq_true rfl⟩ (sp_reqS0 X _ _ _ _) rfl ?_
  exact ⟨rfl, rfl⟩
theorem pb_undo (X : AX) (I J : Nat → Nat → Int) (cc ss : Nat) {g : F1} {hs : Nat → F1} {m : Nat} (hH : Hist I J hs m) (hR : SetR I J 1 g) (hw : WF g) (hm0 : 0 < m) (hb : WF (hs (m - 1))) : Ev X k_X8_undo (0, [some (vr 0)], []) (MS I J cc ss) (PV cc ss (some (vi ((m - 1 : Nat) : Int))) (fun I' J' => onlyC I I' J J' ∧ Hist I' J' hs (m - 1) ∧ SetR I' J' 1 (hs (m - 1)))) := by
  refine ev_n (fr' := (4, [some (vr 0)], [vr 13])) (S' := MS I J cc ss) 2 rfl ?_
  refine ev_cv rfl rfl rfl ⟨Nat.le_of_ble_eq_true rfl, Nat.le_of_ble_eq_true rfl⟩ (sp_depth X _ _ _ _ hH) ?_
  show Ev X k_X8_undo (7, [some (vr 0)], [vi (m : Int)]) (MS I J cc ss) _
  refine ev_if (c := .le) (off := 7) rfl (by decide) (fun (g1 : (m : Int) ≤ 0) => False.elim (by omega)) (fun (g1 : ¬ ((m : Int) ≤ 0)) => ?_)
  show Ev X k_X8_undo (10, [some (vr 0)], []) (MS I J cc ss) _
  refine ev_n (fr' := (15, [some (vr 0)], [vi 1])) (S' := MS I J cc ss) 2 rfl ?_
  refine ev_cv rfl rfl rfl ⟨Nat.le_of_ble_eq_true rfl, Nat.le_of_ble_eq_true rfl⟩ (sp_reqS1 X _) ?_
  show Ev X k_X8_undo (18, [some (vr 0)], []) (MS I J cc ss) _
  refine ev_n (fr' := (26, [some (vr 0)], [vr 1, vr 13])) (S' := MS I J cc ss) 4 rfl ?_
  refine ev_cp rfl rfl rfl ⟨Nat.le_of_ble_eq_true rfl, Nat.le_of_ble_eq_true rfl⟩ (sp_back X _ _ _ _ hH hm0 hR.wd hb) (fun I1 J2 q3 => ?_)
  obtain ⟨r1, r2, hH, hR⟩ := q3
  show Ev X k_X8_undo (29, [some (vr 0)], []) (MS I1 J2 cc ss) _
  refine ev_n (fr' := (33, [some (vr 0)], [vr 13])) (S' := MS I1 J2 cc ss) 2 rfl ?_
  refine ev_cv rfl rfl rfl ⟨Nat.le_of_ble_eq_true rfl, Nat.le_of_ble_eq_true rfl⟩ (sp_depth X _ _ _ _ hH) ?_
  show Ev X k_X8_undo (36, [some (vr 0)], [vi ((m - 1 : Nat) : Int)]) (MS I1 J2 cc ss) _
  refine ev_r rfl rfl rfl ?_
  exact ⟨_, _, rfl, rfl, fun c hc => ⟨r1 c (by omega) (by omega), r2 c (by omega)⟩, hH, hR⟩
theorem pb_setShape_x (X : AX) (I J : Nat → Nat → Int) (cc ss : Nat) {g : F1} (y t z x : Int) (hS : SRep I 1 g) (hP : PRep I J 5 g) (hI : IRep I J 9 g) (hws : WS g) (hwp : WP g) (hwi : WI g) (h : ¬ (0 ≤ y ∧ y < g 11 ∧ 0 ≤ t ∧ t < g (37 * y.toNat + 12))) : Ev X k_X8_setShape (0, [some (vr 0), some (vi y), some (vi t), some (vi z), some (vi x), none], []) (MS I J cc ss) (fun o T => o = .inr 2 ∧ T = MS I J (cc + 1) (ss + 6)) := by
  refine ev_n (fr' := (9, [some (vr 0), some (vi y), some (vi t), some (vi z), some (vi x), none], [vi t, vi y, vr 5])) (S' := MS I J cc ss) 5 rfl ?_
  refine ev_cv rfl rfl rfl ⟨Nat.le_of_ble_eq_true rfl, Nat.le_of_ble_eq_true rfl⟩ (sp_hasItem_5 X _ _ _ _ y t hP hwp) ?_
  show Ev X k_X8_setShape (12, [some (vr 0), some (vi y), some (vi t), some (vi z), some (vi x), none], [vi (if 0 ≤ y ∧ y < g 11 ∧ 0 ≤ t ∧ t < g (37 * y.toNat + 12) then 1 else 0)]) (MS I J cc ss) _
  refine ev_s0 _ (h) ?_
  show Ev X k_X8_setShape (12, [some (vr 0), some (vi y), some (vi t), some (vi z), some (vi x), none], [vi 0]) (MS I J cc ss) _
  refine ev_cx rfl rfl rfl ⟨Nat.le_of_ble_eq_true rfl, Nat.le_of_ble_eq_true rfl⟩ (sp_reqI0 X _ _ _ _) rfl ?_
  exact ⟨rfl, rfl⟩
theorem pb_setShape_y (X : AX) (I J : Nat → Nat → Int) (cc ss : Nat) {g : F1} (p s : Nat) (z x : Int) (hS : SRep I 1 g) (hP : PRep I J 5 g) (hI : IRep I J 9 g) (hws : WS g) (hwp : WP g) (hwi : WI g) (hp : (p : Int) < g 11) (hs2 : (s : Int) < g (37 * p + 12)) (h : ¬ (1 ≤ z ∧ z ≤ 5)) : Ev X k_X8_setShape (0, [some (vr 0), some (vi (p : Int)), some (vi (s : Int)), some (vi z), some (vi x), none], []) (MS I J cc ss) (fun o T => o = .inr 1 ∧ T = MS I J (cc + 1) (ss + 6)) := by
  refine ev_n (fr' := (9, [some (vr 0), some (vi (p : Int)), some (vi (s : Int)), some (vi z), some (vi x), none], [vi (s : Int), vi (p : Int), vr 5])) (S' := MS I J cc ss) 5 rfl ?_
  refine ev_cv rfl rfl rfl ⟨Nat.le_of_ble_eq_true rfl, Nat.le_of_ble_eq_true rfl⟩ (sp_hasItem_5 X _ _ _ _ (p : Int) (s : Int) hP hwp) ?_
  show Ev X k_X8_setShape (12, [some (vr 0), some (vi (p : Int)), some (vi (s : Int)), some (vi z), some (vi x), none], [vi (if 0 ≤ (p : Int) ∧ (p : Int) < g 11 ∧ 0 ≤ (s : Int) ∧ (s : Int) < g (37 * (p : Int).toNat + 12) then 1 else 0)]) (MS I J cc ss) _
  refine ev_s1 _ (⟨by omega, by omega, by omega, by rw [Int.toNat_natCast]; omega⟩) ?_
  show Ev X k_X8_setShape (12, [some (vr 0), some (vi (p : Int)), some (vi (s : Int)), some (vi z), some (vi x), none], [vi 1]) (MS I J cc ss) _
  refine ev_cv rfl rfl rfl ⟨Nat.le_of_ble_eq_true rfl, Nat.le_of_ble_eq_true rfl⟩ (sp_reqI1 X _) ?_
  show Ev X k_X8_setShape (15, [some (vr 0), some (vi (p : Int)), some (vi (s : Int)), some (vi z), some (vi x), none], []) (MS I J cc ss) _
  refine ev_n (fr' := (18, [some (vr 0), some (vi (p : Int)), some (vi (s : Int)), some (vi z), some (vi x), none], [vi 5, vi 1, vi z])) (S' := MS I J cc ss) 3 rfl ?_
  refine ev_cv rfl rfl rfl ⟨Nat.le_of_ble_eq_true rfl, Nat.le_of_ble_eq_true rfl⟩ (sp_within X _ z 1 5 ) ?_
  show Ev X k_X8_setShape (21, [some (vr 0), some (vi (p : Int)), some (vi (s : Int)), some (vi z), some (vi x), none], [vi (if 1 ≤ z ∧ z ≤ 5 then 1 else 0)]) (MS I J cc ss) _
  refine ev_s0 _ (h) ?_
  show Ev X k_X8_setShape (21, [some (vr 0), some (vi (p : Int)), some (vi (s : Int)), some (vi z), some (vi x), none], [vi 0]) (MS I J cc ss) _
  refine ev_cx rfl rfl rfl ⟨Nat.le_of_ble_eq_true rfl, Nat.le_of_ble_eq_true rfl⟩ (sp_reqA0 X _ _ _ _) rfl ?_
  exact ⟨rfl, rfl⟩
theorem pb_setShape_z (X : AX) (I J : Nat → Nat → Int) (cc ss : Nat) {g : F1} (p s v : Nat) (x : Int) (hS : SRep I 1 g) (hP : PRep I J 5 g) (hI : IRep I J 9 g) (hws : WS g) (hwp : WP g) (hwi : WI g) (hp : (p : Int) < g 11) (hs2 : (s : Int) < g (37 * p + 12)) (hv : 1 ≤ v ∧ v ≤ 5) (h : ¬ fitP (g (37 * p + 6 * s + 13)) (v : Int) x) : Ev X k_X8_setShape (0, [some (vr 0), some (vi (p : Int)), some (vi (s : Int)), some (vi (v : Int)), some (vi x), none], []) (MS I J cc ss) (fun o T => o = .inr 1 ∧ T = MS I J (cc + 1) (ss + 6)) := by
  have h8 := hwp.2.1
  have h6 : ∀ q : Nat, (q : Int) < g 11 → g (37 * q + 12) ≤ 6 := fun q hq => (hwp.2.2 q hq).2.1
  have h66 := h6 p hp
  refine ev_n (fr' := (9, [some (vr 0), some (vi (p : Int)), some (vi (s : Int)), some (vi (v : Int)), some (vi x), none], [vi (s : Int), vi (p : Int), vr 5])) (S' := MS I J cc ss) 5 rfl ?_
  refine ev_cv rfl rfl rfl ⟨Nat.le_of_ble_eq_true rfl, Nat.le_of_ble_eq_true rfl⟩ (sp_hasItem_5 X _ _ _ _ (p : Int) (s : Int) hP hwp) ?_
  show Ev X k_X8_setShape (12, [some (vr 0), some (vi (p : Int)), some (vi (s : Int)), some (vi (v : Int)), some (vi x), none], [vi (if 0 ≤ (p : Int) ∧ (p : Int) < g 11 ∧ 0 ≤ (s : Int) ∧ (s : Int) < g (37 * (p : Int).toNat + 12) then 1 else 0)]) (MS I J cc ss) _
  refine ev_s1 _ (⟨by omega, by omega, by omega, by rw [Int.toNat_natCast]; omega⟩) ?_
  show Ev X k_X8_setShape (12, [some (vr 0), some (vi (p : Int)), some (vi (s : Int)), some (vi (v : Int)), some (vi x), none], [vi 1]) (MS I J cc ss) _
  refine ev_cv rfl rfl rfl ⟨Nat.le_of_ble_eq_true rfl, Nat.le_of_ble_eq_true rfl⟩ (sp_reqI1 X _) ?_
  show Ev X k_X8_setShape (15, [some (vr 0), some (vi (p : Int)), some (vi (s : Int)), some (vi (v : Int)), some (vi x), none], []) (MS I J cc ss) _
  refine ev_n (fr' := (18, [some (vr 0), some (vi (p : Int)), some (vi (s : Int)), some (vi (v : Int)), some (vi x), none], [vi 5, vi 1, vi (v : Int)])) (S' := MS I J cc ss) 3 rfl ?_
  refine ev_cv rfl rfl rfl ⟨Nat.le_of_ble_eq_true rfl, Nat.le_of_ble_eq_true rfl⟩ (sp_within X _ (v : Int) 1 5 ) ?_
  show Ev X k_X8_setShape (21, [some (vr 0), some (vi (p : Int)), some (vi (s : Int)), some (vi (v : Int)), some (vi x), none], [vi (if 1 ≤ (v : Int) ∧ (v : Int) ≤ 5 then 1 else 0)]) (MS I J cc ss) _
  refine ev_s1 _ (⟨by omega, by omega⟩) ?_
  show Ev X k_X8_setShape (21, [some (vr 0), some (vi (p : Int)), some (vi (s : Int)), some (vi (v : Int)), some (vi x), none], [vi 1]) (MS I J cc ss) _
  refine ev_cv rfl rfl rfl ⟨Nat.le_of_ble_eq_true rfl, Nat.le_of_ble_eq_true rfl⟩ (sp_reqA1 X _) ?_
  show Ev X k_X8_setShape (24, [some (vr 0), some (vi (p : Int)), some (vi (s : Int)), some (vi (v : Int)), some (vi x), none], []) (MS I J cc ss) _
  refine ev_n (fr' := (34, [some (vr 0), some (vi (p : Int)), some (vi (s : Int)), some (vi (v : Int)), some (vi x), none], [vi 0, vi (s : Int), vi (p : Int), vr 5])) (S' := MS I J cc ss) 6 rfl ?_
  refine ev_cv rfl rfl rfl ⟨Nat.le_of_ble_eq_true rfl, Nat.le_of_ble_eq_true rfl⟩ (sp_number_5 X _ _ _ _ p s 0 hP hwp (by omega) (by omega) (by omega)) ?_
  show Ev X k_X8_setShape (37, [some (vr 0), some (vi (p : Int)), some (vi (s : Int)), some (vi (v : Int)), some (vi x), none], [vi (g (37 * p + 6 * s + 13))]) (MS I J cc ss) _
  refine ev_n (fr' := (40, [some (vr 0), some (vi (p : Int)), some (vi (s : Int)), some (vi (v : Int)), some (vi x), none], [vi x, vi (v : Int), vi (g (37 * p + 6 * s + 13))])) (S' := MS I J cc ss) 2 rfl ?_
  refine ev_cv rfl rfl rfl ⟨Nat.le_of_ble_eq_true rfl, Nat.le_of_ble_eq_true rfl⟩ (sp_fitsShape X _ (g (37 * p + 6 * s + 13)) v x (by omega)) ?_
  show Ev X k_X8_setShape (43, [some (vr 0), some (vi (p : Int)), some (vi (s : Int)), some (vi (v : Int)), some (vi x), none], [vi (if fitP (g (37 * p + 6 * s + 13)) (v : Int) x then 1 else 0)]) (MS I J cc ss) _
  refine ev_s0 _ (h) ?_
  show Ev X k_X8_setShape (43, [some (vr 0), some (vi (p : Int)), some (vi (s : Int)), some (vi (v : Int)), some (vi x), none], [vi 0]) (MS I J cc ss) _
  refine ev_cx rfl rfl rfl ⟨Nat.le_of_ble_eq_true rfl, Nat.le_of_ble_eq_true rfl⟩ (sp_reqA0 X _ _ _ _) rfl ?_
  exact ⟨rfl, rfl⟩
theorem pb_setShape (X : AX) (I J : Nat → Nat → Int) (cc ss : Nat) (p s v : Nat) (x : Int) {g : F1} {hs : Nat → F1} {m : Nat} (hH : Hist I J hs m) (hR : SetR I J 1 g) (hw : WF g) (hp : (p : Int) < g 11) (hs2 : (s : Int) < g (37 * p + 12)) (hv : 1 ≤ v ∧ v ≤ 5) (h : fitP (g (37 * p + 6 * s + 13)) (v : Int) x) : Ev X k_X8_setShape (0, [some (vr 0), some (vi (p : Int)), some (vi (s : Int)), some (vi (v : Int)), some (vi x), none], []) (MS I J cc ss) (PV cc ss (some (vi (g (37 * p + 6 * s + v + 13)))) (fun I' J' => onlyC I I' J J' ∧ Hist I' J' (remH hs m g) (remM m) ∧ SetR I' J' 1 (upd1 g (37 * p + 6 * s + v + 13) x))) := by
  have hS : SRep I 1 g := hR.1
  have hP : PRep I J 5 g := hR.2.1
  have hI : IRep I J 9 g := hR.2.2
  have hws := hw.1
  have hwp := hw.2.1
  have hwi := hw.2.2
  have h8 := hwp.2.1
  have h6 : ∀ q : Nat, (q : Int) < g 11 → g (37 * q + 12) ≤ 6 := fun q hq => (hwp.2.2 q hq).2.1
  have h66 := h6 p hp
  refine ev_n (fr' := (9, [some (vr 0), some (vi (p : Int)), some (vi (s : Int)), some (vi (v : Int)), some (vi x), none], [vi (s : Int), vi (p : Int), vr 5])) (S' := MS I J cc ss) 5 rfl ?_
  refine ev_cv rfl rfl rfl ⟨Nat.le_of_ble_eq_true rfl, Nat.le_of_ble_eq_true rfl⟩ (sp_hasItem_5 X _ _ _ _ (p : Int) (s : Int) hP hwp) ?_
  show Ev X k_X8_setShape (12, [some (vr 0), some (vi (p : Int)), some (vi (s : Int)), some (vi (v : Int)), some (vi x), none], [vi (if 0 ≤ (p : Int) ∧ (p : Int) < g 11 ∧ 0 ≤ (s : Int) ∧ (s : Int) < g (37 * (p : Int).toNat + 12) then 1 else 0)]) (MS I J cc ss) _
  refine ev_s1 _ (⟨by omega, by omega, by omega, by rw [Int.toNat_natCast]; omega⟩) ?_
  show Ev X k_X8_setShape (12, [some (vr 0), some (vi (p : Int)), some (vi (s : Int)), some (vi (v : Int)), some (vi x), none], [vi 1]) (MS I J cc ss) _
  refine ev_cv rfl rfl rfl ⟨Nat.le_of_ble_eq_true rfl, Nat.le_of_ble_eq_true rfl⟩ (sp_reqI1 X _) ?_
  show Ev X k_X8_setShape (15, [some (vr 0), some (vi (p : Int)), some (vi (s : Int)), some (vi (v : Int)), some (vi x), none], []) (MS I J cc ss) _
  refine ev_n (fr' := (18, [some (vr 0), some (vi (p : Int)), some (vi (s : Int)), some (vi (v : Int)), some (vi x), none], [vi 5, vi 1, vi (v : Int)])) (S' := MS I J cc ss) 3 rfl ?_
  refine ev_cv rfl rfl rfl ⟨Nat.le_of_ble_eq_true rfl, Nat.le_of_ble_eq_true rfl⟩ (sp_within X _ (v : Int) 1 5 ) ?_
  show Ev X k_X8_setShape (21, [some (vr 0), some (vi (p : Int)), some (vi (s : Int)), some (vi (v : Int)), some (vi x), none], [vi (if 1 ≤ (v : Int) ∧ (v : Int) ≤ 5 then 1 else 0)]) (MS I J cc ss) _
  refine ev_s1 _ (⟨by omega, by omega⟩) ?_
  show Ev X k_X8_setShape (21, [some (vr 0), some (vi (p : Int)), some (vi (s : Int)), some (vi (v : Int)), some (vi x), none], [vi 1]) (MS I J cc ss) _
  refine ev_cv rfl rfl rfl ⟨Nat.le_of_ble_eq_true rfl, Nat.le_of_ble_eq_true rfl⟩ (sp_reqA1 X _) ?_
  show Ev X k_X8_setShape (24, [some (vr 0), some (vi (p : Int)), some (vi (s : Int)), some (vi (v : Int)), some (vi x), none], []) (MS I J cc ss) _
  refine ev_n (fr' := (34, [some (vr 0), some (vi (p : Int)), some (vi (s : Int)), some (vi (v : Int)), some (vi x), none], [vi 0, vi (s : Int), vi (p : Int), vr 5])) (S' := MS I J cc ss) 6 rfl ?_
  refine ev_cv rfl rfl rfl ⟨Nat.le_of_ble_eq_true rfl, Nat.le_of_ble_eq_true rfl⟩ (sp_number_5 X _ _ _ _ p s 0 hP hwp (by omega) (by omega) (by omega)) ?_
  show Ev X k_X8_setShape (37, [some (vr 0), some (vi (p : Int)), some (vi (s : Int)), some (vi (v : Int)), some (vi x), none], [vi (g (37 * p + 6 * s + 13))]) (MS I J cc ss) _
  refine ev_n (fr' := (40, [some (vr 0), some (vi (p : Int)), some (vi (s : Int)), some (vi (v : Int)), some (vi x), none], [vi x, vi (v : Int), vi (g (37 * p + 6 * s + 13))])) (S' := MS I J cc ss) 2 rfl ?_
  refine ev_cv rfl rfl rfl ⟨Nat.le_of_ble_eq_true rfl, Nat.le_of_ble_eq_true rfl⟩ (sp_fitsShape X _ (g (37 * p + 6 * s + 13)) v x (by omega)) ?_
  show Ev X k_X8_setShape (43, [some (vr 0), some (vi (p : Int)), some (vi (s : Int)), some (vi (v : Int)), some (vi x), none], [vi (if fitP (g (37 * p + 6 * s + 13)) (v : Int) x then 1 else 0)]) (MS I J cc ss) _
  refine ev_s1 _ (h) ?_
  show Ev X k_X8_setShape (43, [some (vr 0), some (vi (p : Int)), some (vi (s : Int)), some (vi (v : Int)), some (vi x), none], [vi 1]) (MS I J cc ss) _
  refine ev_cv rfl rfl rfl ⟨Nat.le_of_ble_eq_true rfl, Nat.le_of_ble_eq_true rfl⟩ (sp_reqA1 X _) ?_
  show Ev X k_X8_setShape (46, [some (vr 0), some (vi (p : Int)), some (vi (s : Int)), some (vi (v : Int)), some (vi x), none], []) (MS I J cc ss) _
  refine ev_n (fr' := (54, [some (vr 0), some (vi (p : Int)), some (vi (s : Int)), some (vi (v : Int)), some (vi x), none], [vr 1, vr 13])) (S' := MS I J cc ss) 4 rfl ?_
  refine ev_cp rfl rfl rfl ⟨Nat.le_of_ble_eq_true rfl, Nat.le_of_ble_eq_true rfl⟩ (sp_rem X _ _ _ _ hH hR hw) (fun I1 J2 q3 => ?_)
  obtain ⟨hO, hH, hR⟩ := q3
  show Ev X k_X8_setShape (57, [some (vr 0), some (vi (p : Int)), some (vi (s : Int)), some (vi (v : Int)), some (vi x), none], []) (MS I1 J2 cc ss) _
  have hS : SRep I1 1 g := hR.1
  have hP : PRep I1 J2 5 g := hR.2.1
  have hI : IRep I1 J2 9 g := hR.2.2
  refine ev_n (fr' := (67, [some (vr 0), some (vi (p : Int)), some (vi (s : Int)), some (vi (v : Int)), some (vi x), none], [vi (v : Int), vi (s : Int), vi (p : Int), vr 5])) (S' := MS I1 J2 cc ss) 6 rfl ?_
  refine ev_cv rfl rfl rfl ⟨Nat.le_of_ble_eq_true rfl, Nat.le_of_ble_eq_true rfl⟩ (sp_number_5 X _ _ _ _ p s v hP hwp (by omega) (by omega) (by omega)) ?_
  show Ev X k_X8_setShape (70, [some (vr 0), some (vi (p : Int)), some (vi (s : Int)), some (vi (v : Int)), some (vi x), none], [vi (g (37 * p + 6 * s + v + 13))]) (MS I1 J2 cc ss) _
  refine ev_n (fr' := (84, [some (vr 0), some (vi (p : Int)), some (vi (s : Int)), some (vi (v : Int)), some (vi x), some (vi (g (37 * p + 6 * s + v + 13)))], [vi x, vi (v : Int), vi (s : Int), vi (p : Int), vr 5])) (S' := MS I1 J2 cc ss) 8 rfl ?_
  refine ev_cv rfl rfl rfl ⟨Nat.le_of_ble_eq_true rfl, Nat.le_of_ble_eq_true rfl⟩ (sp_putNumber_5 X _ _ _ _ p s v x hP h8 h6 (by omega) (by omega) (by omega)) ?_
  show Ev X k_X8_setShape (87, [some (vr 0), some (vi (p : Int)), some (vi (s : Int)), some (vi (v : Int)), some (vi x), some (vi (g (37 * p + 6 * s + v + 13)))], []) (MS (up2 I1 8 (36 * p + 6 * s + v) x) J2 cc ss) _
  refine ev_n (fr' := (89, [some (vr 0), some (vi (p : Int)), some (vi (s : Int)), some (vi (v : Int)), some (vi x), some (vi (g (37 * p + 6 * s + v + 13)))], [vi (g (37 * p + 6 * s + v + 13))])) (S' := MS (up2 I1 8 (36 * p + 6 * s + v) x) J2 cc ss) 1 rfl ?_
  refine ev_r rfl rfl rfl ?_
  exact ⟨_, _, rfl, rfl, chgP hO hH hR hw (fun a h7 h8 => up2_row _ _ _ _ h8) (PRep.put hP hp h8 h6 hs2 (by omega)) (fun q hq => if_neg (by omega))⟩
theorem pb_moveShape_x (X : AX) (I J : Nat → Nat → Int) (cc ss : Nat) {g : F1} (u t x y : Int) (hS : SRep I 1 g) (hP : PRep I J 5 g) (hI : IRep I J 9 g) (hws : WS g) (hwp : WP g) (hwi : WI g) (h : ¬ (0 ≤ u ∧ u < g 11 ∧ 0 ≤ t ∧ t < g (37 * u.toNat + 12))) : Ev X k_X8_moveShape (0, [some (vr 0), some (vi u), some (vi t), some (vi x), some (vi y)], []) (MS I J cc ss) (fun o T => o = .inr 2 ∧ T = MS I J (cc + 1) (ss + 6)) := by
  refine ev_n (fr' := (9, [some (vr 0), some (vi u), some (vi t), some (vi x), some (vi y)], [vi t, vi u, vr 5])) (S' := MS I J cc ss) 5 rfl ?_
  refine ev_cv rfl rfl rfl ⟨Nat.le_of_ble_eq_true rfl, Nat.le_of_ble_eq_true rfl⟩ (sp_hasItem_5 X _ _ _ _ u t hP hwp) ?_
  show Ev X k_X8_moveShape (12, [some (vr 0), some (vi u), some (vi t), some (vi x), some (vi y)], [vi (if 0 ≤ u ∧ u < g 11 ∧ 0 ≤ t ∧ t < g (37 * u.toNat + 12) then 1 else 0)]) (MS I J cc ss) _
  refine ev_s0 _ (h) ?_
  show Ev X k_X8_moveShape (12, [some (vr 0), some (vi u), some (vi t), some (vi x), some (vi y)], [vi 0]) (MS I J cc ss) _
  refine ev_cx rfl rfl rfl ⟨Nat.le_of_ble_eq_true rfl, Nat.le_of_ble_eq_true rfl⟩ (sp_reqI0 X _ _ _ _) rfl ?_
  exact ⟨rfl, rfl⟩
theorem pb_moveShape_y (X : AX) (I J : Nat → Nat → Int) (cc ss : Nat) {g : F1} (p s : Nat) (x y : Int) (hS : SRep I 1 g) (hP : PRep I J 5 g) (hI : IRep I J 9 g) (hws : WS g) (hwp : WP g) (hwi : WI g) (hp : (p : Int) < g 11) (hs2 : (s : Int) < g (37 * p + 12)) (h : ¬ ((-48 ≤ x ∧ x ≤ 48) ∧ (-48 ≤ y ∧ y ≤ 48))) : Ev X k_X8_moveShape (0, [some (vr 0), some (vi (p : Int)), some (vi (s : Int)), some (vi x), some (vi y)], []) (MS I J cc ss) (fun o T => o = .inr 1 ∧ T = MS I J (cc + 1) (ss + 6)) := by
  refine ev_n (fr' := (9, [some (vr 0), some (vi (p : Int)), some (vi (s : Int)), some (vi x), some (vi y)], [vi (s : Int), vi (p : Int), vr 5])) (S' := MS I J cc ss) 5 rfl ?_
  refine ev_cv rfl rfl rfl ⟨Nat.le_of_ble_eq_true rfl, Nat.le_of_ble_eq_true rfl⟩ (sp_hasItem_5 X _ _ _ _ (p : Int) (s : Int) hP hwp) ?_
  show Ev X k_X8_moveShape (12, [some (vr 0), some (vi (p : Int)), some (vi (s : Int)), some (vi x), some (vi y)], [vi (if 0 ≤ (p : Int) ∧ (p : Int) < g 11 ∧ 0 ≤ (s : Int) ∧ (s : Int) < g (37 * (p : Int).toNat + 12) then 1 else 0)]) (MS I J cc ss) _
  refine ev_s1 _ (⟨by omega, by omega, by omega, by rw [Int.toNat_natCast]; omega⟩) ?_
  show Ev X k_X8_moveShape (12, [some (vr 0), some (vi (p : Int)), some (vi (s : Int)), some (vi x), some (vi y)], [vi 1]) (MS I J cc ss) _
  refine ev_cv rfl rfl rfl ⟨Nat.le_of_ble_eq_true rfl, Nat.le_of_ble_eq_true rfl⟩ (sp_reqI1 X _) ?_
  show Ev X k_X8_moveShape (15, [some (vr 0), some (vi (p : Int)), some (vi (s : Int)), some (vi x), some (vi y)], []) (MS I J cc ss) _
  refine ev_n (fr' := (18, [some (vr 0), some (vi (p : Int)), some (vi (s : Int)), some (vi x), some (vi y)], [vi y, vi x])) (S' := MS I J cc ss) 2 rfl ?_
  refine ev_cv rfl rfl rfl ⟨Nat.le_of_ble_eq_true rfl, Nat.le_of_ble_eq_true rfl⟩ (sp_isShift8 X _ _ _ _ x y) ?_
  show Ev X k_X8_moveShape (21, [some (vr 0), some (vi (p : Int)), some (vi (s : Int)), some (vi x), some (vi y)], [vi (if (-48 ≤ x ∧ x ≤ 48) ∧ (-48 ≤ y ∧ y ≤ 48) then 1 else 0)]) (MS I J cc ss) _
  refine ev_beq _ rfl (by decide) (fun (g1 : ¬ ((-48 ≤ x ∧ x ≤ 48) ∧ (-48 ≤ y ∧ y ≤ 48))) => ?_) (fun (g1 : (-48 ≤ x ∧ x ≤ 48) ∧ (-48 ≤ y ∧ y ≤ 48)) => False.elim ((h) g1))
  show Ev X k_X8_moveShape (40, [some (vr 0), some (vi (p : Int)), some (vi (s : Int)), some (vi x), some (vi y)], []) (MS I J cc ss) _
  refine ev_n (fr' := (41, [some (vr 0), some (vi (p : Int)), some (vi (s : Int)), some (vi x), some (vi y)], [vi 0])) (S' := MS I J cc ss) 1 rfl ?_
  refine ev_cx rfl rfl rfl ⟨Nat.le_of_ble_eq_true rfl, Nat.le_of_ble_eq_true rfl⟩ (sp_reqA0 X _ _ _ _) rfl ?_
  exact ⟨rfl, rfl⟩
theorem pb_moveShape_z (X : AX) (I J : Nat → Nat → Int) (cc ss : Nat) {g : F1} (p s : Nat) (x y : Int) (hS : SRep I 1 g) (hP : PRep I J 5 g) (hI : IRep I J 9 g) (hws : WS g) (hwp : WP g) (hwi : WI g) (hp : (p : Int) < g 11) (hs2 : (s : Int) < g (37 * p + 12)) (h1 : (-48 ≤ x ∧ x ≤ 48) ∧ (-48 ≤ y ∧ y ≤ 48)) (h : ¬ canP g p s x y) : Ev X k_X8_moveShape (0, [some (vr 0), some (vi (p : Int)), some (vi (s : Int)), some (vi x), some (vi y)], []) (MS I J cc ss) (fun o T => o = .inr 1 ∧ T = MS I J (cc + 1) (ss + 6)) := by
  refine ev_n (fr' := (9, [some (vr 0), some (vi (p : Int)), some (vi (s : Int)), some (vi x), some (vi y)], [vi (s : Int), vi (p : Int), vr 5])) (S' := MS I J cc ss) 5 rfl ?_
  refine ev_cv rfl rfl rfl ⟨Nat.le_of_ble_eq_true rfl, Nat.le_of_ble_eq_true rfl⟩ (sp_hasItem_5 X _ _ _ _ (p : Int) (s : Int) hP hwp) ?_
  show Ev X k_X8_moveShape (12, [some (vr 0), some (vi (p : Int)), some (vi (s : Int)), some (vi x), some (vi y)], [vi (if 0 ≤ (p : Int) ∧ (p : Int) < g 11 ∧ 0 ≤ (s : Int) ∧ (s : Int) < g (37 * (p : Int).toNat + 12) then 1 else 0)]) (MS I J cc ss) _
  refine ev_s1 _ (⟨by omega, by omega, by omega, by rw [Int.toNat_natCast]; omega⟩) ?_
  show Ev X k_X8_moveShape (12, [some (vr 0), some (vi (p : Int)), some (vi (s : Int)), some (vi x), some (vi y)], [vi 1]) (MS I J cc ss) _
  refine ev_cv rfl rfl rfl ⟨Nat.le_of_ble_eq_true rfl, Nat.le_of_ble_eq_true rfl⟩ (sp_reqI1 X _) ?_
  show Ev X k_X8_moveShape (15, [some (vr 0), some (vi (p : Int)), some (vi (s : Int)), some (vi x), some (vi y)], []) (MS I J cc ss) _
  refine ev_n (fr' := (18, [some (vr 0), some (vi (p : Int)), some (vi (s : Int)), some (vi x), some (vi y)], [vi y, vi x])) (S' := MS I J cc ss) 2 rfl ?_
  refine ev_cv rfl rfl rfl ⟨Nat.le_of_ble_eq_true rfl, Nat.le_of_ble_eq_true rfl⟩ (sp_isShift8 X _ _ _ _ x y) ?_
  show Ev X k_X8_moveShape (21, [some (vr 0), some (vi (p : Int)), some (vi (s : Int)), some (vi x), some (vi y)], [vi (if (-48 ≤ x ∧ x ≤ 48) ∧ (-48 ≤ y ∧ y ≤ 48) then 1 else 0)]) (MS I J cc ss) _
  refine ev_beq _ rfl (by decide) (fun (g1 : ¬ ((-48 ≤ x ∧ x ≤ 48) ∧ (-48 ≤ y ∧ y ≤ 48))) => False.elim (g1 (h1))) (fun (g1 : (-48 ≤ x ∧ x ≤ 48) ∧ (-48 ≤ y ∧ y ≤ 48)) => ?_)
  show Ev X k_X8_moveShape (24, [some (vr 0), some (vi (p : Int)), some (vi (s : Int)), some (vi x), some (vi y)], []) (MS I J cc ss) _
  refine ev_n (fr' := (30, [some (vr 0), some (vi (p : Int)), some (vi (s : Int)), some (vi x), some (vi y)], [vi y, vi x, vi (s : Int), vi (p : Int), vr 0])) (S' := MS I J cc ss) 5 rfl ?_
  refine ev_cv rfl rfl rfl ⟨Nat.le_of_ble_eq_true rfl, Nat.le_of_ble_eq_true rfl⟩ (sp_canShift X _ _ _ _ p s x y hP hwp hp hs2 (by omega) (by omega)) ?_
  show Ev X k_X8_moveShape (33, [some (vr 0), some (vi (p : Int)), some (vi (s : Int)), some (vi x), some (vi y)], [vi (if canP g p s x y then 1 else 0)]) (MS I J cc ss) _
  refine ev_beq _ rfl (by decide) (fun (g2 : ¬ (canP g p s x y)) => ?_) (fun (g2 : canP g p s x y) => False.elim ((h) g2))
  show Ev X k_X8_moveShape (40, [some (vr 0), some (vi (p : Int)), some (vi (s : Int)), some (vi x), some (vi y)], []) (MS I J cc ss) _
  refine ev_n (fr' := (41, [some (vr 0), some (vi (p : Int)), some (vi (s : Int)), some (vi x), some (vi y)], [vi 0])) (S' := MS I J cc ss) 1 rfl ?_
  refine ev_cx rfl rfl rfl ⟨Nat.le_of_ble_eq_true rfl, Nat.le_of_ble_eq_true rfl⟩ (sp_reqA0 X _ _ _ _) rfl ?_
  exact ⟨rfl, rfl⟩
theorem pb_copyShape_x (X : AX) (I J : Nat → Nat → Int) (cc ss : Nat) {g : F1} (u t x y : Int) (hS : SRep I 1 g) (hP : PRep I J 5 g) (hI : IRep I J 9 g) (hws : WS g) (hwp : WP g) (hwi : WI g) (h : ¬ (0 ≤ u ∧ u < g 11 ∧ 0 ≤ t ∧ t < g (37 * u.toNat + 12))) : Ev X k_X8_copyShape (0, [some (vr 0), some (vi u), some (vi t), some (vi x), some (vi y), none], []) (MS I J cc ss) (fun o T => o = .inr 2 ∧ T = MS I J (cc + 1) (ss + 6)) := by
  refine ev_n (fr' := (9, [some (vr 0), some (vi u), some (vi t), some (vi x), some (vi y), none], [vi t, vi u, vr 5])) (S' := MS I J cc ss) 5 rfl ?_
  refine ev_cv rfl rfl rfl ⟨Nat.le_of_ble_eq_true rfl, Nat.le_of_ble_eq_true rfl⟩ (sp_hasItem_5 X _ _ _ _ u t hP hwp) ?_
  show Ev X k_X8_copyShape (12, [some (vr 0), some (vi u), some (vi t), some (vi x), some (vi y), none], [vi (if 0 ≤ u ∧ u < g 11 ∧ 0 ≤ t ∧ t < g (37 * u.toNat + 12) then 1 else 0)]) (MS I J cc ss) _
  refine ev_s0 _ (h) ?_
  show Ev X k_X8_copyShape (12, [some (vr 0), some (vi u), some (vi t), some (vi x), some (vi y), none], [vi 0]) (MS I J cc ss) _
  refine ev_cx rfl rfl rfl ⟨Nat.le_of_ble_eq_true rfl, Nat.le_of_ble_eq_true rfl⟩ (sp_reqI0 X _ _ _ _) rfl ?_
  exact ⟨rfl, rfl⟩
theorem pb_copyShape_y (X : AX) (I J : Nat → Nat → Int) (cc ss : Nat) {g : F1} (p s : Nat) (x y : Int) (hS : SRep I 1 g) (hP : PRep I J 5 g) (hI : IRep I J 9 g) (hws : WS g) (hwp : WP g) (hwi : WI g) (hp : (p : Int) < g 11) (hs2 : (s : Int) < g (37 * p + 12)) (h : ¬ ((-48 ≤ x ∧ x ≤ 48) ∧ (-48 ≤ y ∧ y ≤ 48))) : Ev X k_X8_copyShape (0, [some (vr 0), some (vi (p : Int)), some (vi (s : Int)), some (vi x), some (vi y), none], []) (MS I J cc ss) (fun o T => o = .inr 1 ∧ T = MS I J (cc + 1) (ss + 6)) := by
  refine ev_n (fr' := (9, [some (vr 0), some (vi (p : Int)), some (vi (s : Int)), some (vi x), some (vi y), none], [vi (s : Int), vi (p : Int), vr 5])) (S' := MS I J cc ss) 5 rfl ?_
  refine ev_cv rfl rfl rfl ⟨Nat.le_of_ble_eq_true rfl, Nat.le_of_ble_eq_true rfl⟩ (sp_hasItem_5 X _ _ _ _ (p : Int) (s : Int) hP hwp) ?_
  show Ev X k_X8_copyShape (12, [some (vr 0), some (vi (p : Int)), some (vi (s : Int)), some (vi x), some (vi y), none], [vi (if 0 ≤ (p : Int) ∧ (p : Int) < g 11 ∧ 0 ≤ (s : Int) ∧ (s : Int) < g (37 * (p : Int).toNat + 12) then 1 else 0)]) (MS I J cc ss) _
  refine ev_s1 _ (⟨by omega, by omega, by omega, by rw [Int.toNat_natCast]; omega⟩) ?_
  show Ev X k_X8_copyShape (12, [some (vr 0), some (vi (p : Int)), some (vi (s : Int)), some (vi x), some (vi y), none], [vi 1]) (MS I J cc ss) _
  refine ev_cv rfl rfl rfl ⟨Nat.le_of_ble_eq_true rfl, Nat.le_of_ble_eq_true rfl⟩ (sp_reqI1 X _) ?_
  show Ev X k_X8_copyShape (15, [some (vr 0), some (vi (p : Int)), some (vi (s : Int)), some (vi x), some (vi y), none], []) (MS I J cc ss) _
  refine ev_n (fr' := (18, [some (vr 0), some (vi (p : Int)), some (vi (s : Int)), some (vi x), some (vi y), none], [vi y, vi x])) (S' := MS I J cc ss) 2 rfl ?_
  refine ev_cv rfl rfl rfl ⟨Nat.le_of_ble_eq_true rfl, Nat.le_of_ble_eq_true rfl⟩ (sp_isShift8 X _ _ _ _ x y) ?_
  show Ev X k_X8_copyShape (21, [some (vr 0), some (vi (p : Int)), some (vi (s : Int)), some (vi x), some (vi y), none], [vi (if (-48 ≤ x ∧ x ≤ 48) ∧ (-48 ≤ y ∧ y ≤ 48) then 1 else 0)]) (MS I J cc ss) _
  refine ev_beq _ rfl (by decide) (fun (g1 : ¬ ((-48 ≤ x ∧ x ≤ 48) ∧ (-48 ≤ y ∧ y ≤ 48))) => ?_) (fun (g1 : (-48 ≤ x ∧ x ≤ 48) ∧ (-48 ≤ y ∧ y ≤ 48)) => False.elim ((h) g1))
  show Ev X k_X8_copyShape (40, [some (vr 0), some (vi (p : Int)), some (vi (s : Int)), some (vi x), some (vi y), none], []) (MS I J cc ss) _
  refine ev_n (fr' := (41, [some (vr 0), some (vi (p : Int)), some (vi (s : Int)), some (vi x), some (vi y), none], [vi 0])) (S' := MS I J cc ss) 1 rfl ?_
  refine ev_cx rfl rfl rfl ⟨Nat.le_of_ble_eq_true rfl, Nat.le_of_ble_eq_true rfl⟩ (sp_reqA0 X _ _ _ _) rfl ?_
  exact ⟨rfl, rfl⟩
theorem pb_copyShape_z (X : AX) (I J : Nat → Nat → Int) (cc ss : Nat) {g : F1} (p s : Nat) (x y : Int) (hS : SRep I 1 g) (hP : PRep I J 5 g) (hI : IRep I J 9 g) (hws : WS g) (hwp : WP g) (hwi : WI g) (hp : (p : Int) < g 11) (hs2 : (s : Int) < g (37 * p + 12)) (h1 : (-48 ≤ x ∧ x ≤ 48) ∧ (-48 ≤ y ∧ y ≤ 48)) (h : ¬ canP g p s x y) : Ev X k_X8_copyShape (0, [some (vr 0), some (vi (p : Int)), some (vi (s : Int)), some (vi x), some (vi y), none], []) (MS I J cc ss) (fun o T => o = .inr 1 ∧ T = MS I J (cc + 1) (ss + 6)) := by
  refine ev_n (fr' := (9, [some (vr 0), some (vi (p : Int)), some (vi (s : Int)), some (vi x), some (vi y), none], [vi (s : Int), vi (p : Int), vr 5])) (S' := MS I J cc ss) 5 rfl ?_
  refine ev_cv rfl rfl rfl ⟨Nat.le_of_ble_eq_true rfl, Nat.le_of_ble_eq_true rfl⟩ (sp_hasItem_5 X _ _ _ _ (p : Int) (s : Int) hP hwp) ?_
  show Ev X k_X8_copyShape (12, [some (vr 0), some (vi (p : Int)), some (vi (s : Int)), some (vi x), some (vi y), none], [vi (if 0 ≤ (p : Int) ∧ (p : Int) < g 11 ∧ 0 ≤ (s : Int) ∧ (s : Int) < g (37 * (p : Int).toNat + 12) then 1 else 0)]) (MS I J cc ss) _
  refine ev_s1 _ (⟨by omega, by omega, by omega, by rw [Int.toNat_natCast]; omega⟩) ?_
  show Ev X k_X8_copyShape (12, [some (vr 0), some (vi (p : Int)), some (vi (s : Int)), some (vi x), some (vi y), none], [vi 1]) (MS I J cc ss) _
  refine ev_cv rfl rfl rfl ⟨Nat.le_of_ble_eq_true rfl, Nat.le_of_ble_eq_true rfl⟩ (sp_reqI1 X _) ?_
  show Ev X k_X8_copyShape (15, [some (vr 0), some (vi (p : Int)), some (vi (s : Int)), some (vi x), some (vi y), none], []) (MS I J cc ss) _
  refine ev_n (fr' := (18, [some (vr 0), some (vi (p : Int)), some (vi (s : Int)), some (vi x), some (vi y), none], [vi y, vi x])) (S' := MS I J cc ss) 2 rfl ?_
  refine ev_cv rfl rfl rfl ⟨Nat.le_of_ble_eq_true rfl, Nat.le_of_ble_eq_true rfl⟩ (sp_isShift8 X _ _ _ _ x y) ?_
  show Ev X k_X8_copyShape (21, [some (vr 0), some (vi (p : Int)), some (vi (s : Int)), some (vi x), some (vi y), none], [vi (if (-48 ≤ x ∧ x ≤ 48) ∧ (-48 ≤ y ∧ y ≤ 48) then 1 else 0)]) (MS I J cc ss) _
  refine ev_beq _ rfl (by decide) (fun (g1 : ¬ ((-48 ≤ x ∧ x ≤ 48) ∧ (-48 ≤ y ∧ y ≤ 48))) => False.elim (g1 (h1))) (fun (g1 : (-48 ≤ x ∧ x ≤ 48) ∧ (-48 ≤ y ∧ y ≤ 48)) => ?_)
  show Ev X k_X8_copyShape (24, [some (vr 0), some (vi (p : Int)), some (vi (s : Int)), some (vi x), some (vi y), none], []) (MS I J cc ss) _
  refine ev_n (fr' := (30, [some (vr 0), some (vi (p : Int)), some (vi (s : Int)), some (vi x), some (vi y), none], [vi y, vi x, vi (s : Int), vi (p : Int), vr 0])) (S' := MS I J cc ss) 5 rfl ?_
  refine ev_cv rfl rfl rfl ⟨Nat.le_of_ble_eq_true rfl, Nat.le_of_ble_eq_true rfl⟩ (sp_canShift X _ _ _ _ p s x y hP hwp hp hs2 (by omega) (by omega)) ?_
  show Ev X k_X8_copyShape (33, [some (vr 0), some (vi (p : Int)), some (vi (s : Int)), some (vi x), some (vi y), none], [vi (if canP g p s x y then 1 else 0)]) (MS I J cc ss) _
  refine ev_beq _ rfl (by decide) (fun (g2 : ¬ (canP g p s x y)) => ?_) (fun (g2 : canP g p s x y) => False.elim ((h) g2))
  show Ev X k_X8_copyShape (40, [some (vr 0), some (vi (p : Int)), some (vi (s : Int)), some (vi x), some (vi y), none], []) (MS I J cc ss) _
  refine ev_n (fr' := (41, [some (vr 0), some (vi (p : Int)), some (vi (s : Int)), some (vi x), some (vi y), none], [vi 0])) (S' := MS I J cc ss) 1 rfl ?_
  refine ev_cx rfl rfl rfl ⟨Nat.le_of_ble_eq_true rfl, Nat.le_of_ble_eq_true rfl⟩ (sp_reqA0 X _ _ _ _) rfl ?_
  exact ⟨rfl, rfl⟩
theorem pb_copyShape_w (X : AX) (I J : Nat → Nat → Int) (cc ss : Nat) {g : F1} (p s : Nat) (x y : Int) (hS : SRep I 1 g) (hP : PRep I J 5 g) (hI : IRep I J 9 g) (hws : WS g) (hwp : WP g) (hwi : WI g) (hp : (p : Int) < g 11) (hs2 : (s : Int) < g (37 * p + 12)) (h1 : (-48 ≤ x ∧ x ≤ 48) ∧ (-48 ≤ y ∧ y ≤ 48)) (hc : canP g p s x y) (h : 6 ≤ g (37 * p + 12)) : Ev X k_X8_copyShape (0, [some (vr 0), some (vi (p : Int)), some (vi (s : Int)), some (vi x), some (vi y), none], []) (MS I J cc ss) (fun o T => o = .inr 0 ∧ T = MS I J (cc + 1) (ss + 6)) := by
  refine ev_n (fr' := (9, [some (vr 0), some (vi (p : Int)), some (vi (s : Int)), some (vi x), some (vi y), none], [vi (s : Int), vi (p : Int), vr 5])) (S' := MS I J cc ss) 5 rfl ?_
  refine ev_cv rfl rfl rfl ⟨Nat.le_of_ble_eq_true rfl, Nat.le_of_ble_eq_true rfl⟩ (sp_hasItem_5 X _ _ _ _ (p : Int) (s : Int) hP hwp) ?_
  show Ev X k_X8_copyShape (12, [some (vr 0), some (vi (p : Int)), some (vi (s : Int)), some (vi x), some (vi y), none], [vi (if 0 ≤ (p : Int) ∧ (p : Int) < g 11 ∧ 0 ≤ (s : Int) ∧ (s : Int) < g (37 * (p : Int).toNat + 12) then 1 else 0)]) (MS I J cc ss) _
  refine ev_s1 _ (⟨by omega, by omega, by omega, by rw [Int.toNat_natCast]; omega⟩) ?_
  show Ev X k_X8_copyShape (12, [some (vr 0), some (vi (p : Int)), some (vi (s : Int)), some (vi x), some (vi y), none], [vi 1]) (MS I J cc ss) _
  refine ev_cv rfl rfl rfl ⟨Nat.le_of_ble_eq_true rfl, Nat.le_of_ble_eq_true rfl⟩ (sp_reqI1 X _) ?_
  show Ev X k_X8_copyShape (15, [some (vr 0), some (vi (p : Int)), some (vi (s : Int)), some (vi x), some (vi y), none], []) (MS I J cc ss) _
  refine ev_n (fr' := (18, [some (vr 0), some (vi (p : Int)), some (vi (s : Int)), some (vi x), some (vi y), none], [vi y, vi x])) (S' := MS I J cc ss) 2 rfl ?_
  refine ev_cv rfl rfl rfl ⟨Nat.le_of_ble_eq_true rfl, Nat.le_of_ble_eq_true rfl⟩ (sp_isShift8 X _ _ _ _ x y) ?_
  show Ev X k_X8_copyShape (21, [some (vr 0), some (vi (p : Int)), some (vi (s : Int)), some (vi x), some (vi y), none], [vi (if (-48 ≤ x ∧ x ≤ 48) ∧ (-48 ≤ y ∧ y ≤ 48) then 1 else 0)]) (MS I J cc ss) _
  refine ev_beq _ rfl (by decide) (fun (g1 : ¬ ((-48 ≤ x ∧ x ≤ 48) ∧ (-48 ≤ y ∧ y ≤ 48))) => False.elim (g1 (h1))) (fun (g1 : (-48 ≤ x ∧ x ≤ 48) ∧ (-48 ≤ y ∧ y ≤ 48)) => ?_)
  show Ev X k_X8_copyShape (24, [some (vr 0), some (vi (p : Int)), some (vi (s : Int)), some (vi x), some (vi y), none], []) (MS I J cc ss) _
  refine ev_n (fr' := (30, [some (vr 0), some (vi (p : Int)), some (vi (s : Int)), some (vi x), some (vi y), none], [vi y, vi x, vi (s : Int), vi (p : Int), vr 0])) (S' := MS I J cc ss) 5 rfl ?_
  refine ev_cv rfl rfl rfl ⟨Nat.le_of_ble_eq_true rfl, Nat.le_of_ble_eq_true rfl⟩ (sp_canShift X _ _ _ _ p s x y hP hwp hp hs2 (by omega) (by omega)) ?_
  show Ev X k_X8_copyShape (33, [some (vr 0), some (vi (p : Int)), some (vi (s : Int)), some (vi x), some (vi y), none], [vi (if canP g p s x y then 1 else 0)]) (MS I J cc ss) _
  refine ev_beq _ rfl (by decide) (fun (g2 : ¬ (canP g p s x y)) => False.elim (g2 (hc))) (fun (g2 : canP g p s x y) => ?_)
  show Ev X k_X8_copyShape (36, [some (vr 0), some (vi (p : Int)), some (vi (s : Int)), some (vi x), some (vi y), none], []) (MS I J cc ss) _
  refine ev_n (fr' := (41, [some (vr 0), some (vi (p : Int)), some (vi (s : Int)), some (vi x), some (vi y), none], [vi 1])) (S' := MS I J cc ss) 2 rfl ?_
  refine ev_cv rfl rfl rfl ⟨Nat.le_of_ble_eq_true rfl, Nat.le_of_ble_eq_true rfl⟩ (sp_reqA1 X _) ?_
  show Ev X k_X8_copyShape (44, [some (vr 0), some (vi (p : Int)), some (vi (s : Int)), some (vi x), some (vi y), none], []) (MS I J cc ss) _
  refine ev_n (fr' := (52, [some (vr 0), some (vi (p : Int)), some (vi (s : Int)), some (vi x), some (vi y), none], [vi (p : Int), vr 5])) (S' := MS I J cc ss) 4 rfl ?_
  refine ev_cv rfl rfl rfl ⟨Nat.le_of_ble_eq_true rfl, Nat.le_of_ble_eq_true rfl⟩ (sp_isRowFull_5 X _ _ _ _ p hP hwp (by omega)) ?_
  show Ev X k_X8_copyShape (55, [some (vr 0), some (vi (p : Int)), some (vi (s : Int)), some (vi x), some (vi y), none], [vi (if 6 ≤ g (37 * p + 12) then 1 else 0)]) (MS I J cc ss) _
  refine ev_bne _ rfl (by decide) (fun (g3 : 6 ≤ g (37 * p + 12)) => ?_) (fun (g3 : ¬ (6 ≤ g (37 * p + 12))) => False.elim (g3 (h)))
  show Ev X k_X8_copyShape (62, [some (vr 0), some (vi (p : Int)), some (vi (s : Int)), some (vi x), some (vi y), none], []) (MS I J cc ss) _
  refine ev_n (fr' := (63, [some (vr 0), some (vi (p : Int)), some (vi (s : Int)), some (vi x), some (vi y), none], [vi 0])) (S' := MS I J cc ss) 1 rfl ?_
  refine ev_cx rfl rfl rfl ⟨Nat.le_of_ble_eq_true rfl, Nat.le_of_ble_eq_true rfl⟩ (sp_reqS0 X _ _ _ _) rfl ?_
  exact ⟨rfl, rfl⟩
theorem pb_moveShape (X : AX) (I J : Nat → Nat → Int) (cc ss : Nat) (p s : Nat) (x y : Int) {g : F1} {hs : Nat → F1} {m : Nat} (hH : Hist I J hs m) (hR : SetR I J 1 g) (hw : WF g) (hp : (p : Int) < g 11) (hs2 : (s : Int) < g (37 * p + 12)) (h1 : (-48 ≤ x ∧ x ≤ 48) ∧ (-48 ≤ y ∧ y ≤ 48)) (hc : canP g p s x y) : Ev X k_X8_moveShape (0, [some (vr 0), some (vi (p : Int)), some (vi (s : Int)), some (vi x), some (vi y)], []) (MS I J cc ss) (PV cc ss (some (vi (popF (mkF g p (g 308).toNat)))) (fun I' J' => onlyC I I' J J' ∧ Hist I' J' (remH hs m g) (remM m) ∧ SetR I' J' 1 (wrS g (37 * p + 6 * s + 13) 6 (fun j => g (37 * p + 6 * s + j + 13) + goF (g (37 * p + 6 * s + 13)) (j : Int) x y)))) := by
  have hS : SRep I 1 g := hR.1
  have hP : PRep I J 5 g := hR.2.1
  have hI : IRep I J 9 g := hR.2.2
  have hws := hw.1
  have hwp := hw.2.1
  have hwi := hw.2.2
  have h8 := hwp.2.1
  have h6 : ∀ q : Nat, (q : Int) < g 11 → g (37 * q + 12) ≤ 6 := fun q hq => (hwp.2.2 q hq).2.1
  have h66 := h6 p hp
  have hs6 := hs2
  refine ev_n (fr' := (9, [some (vr 0), some (vi (p : Int)), some (vi (s : Int)), some (vi x), some (vi y)], [vi (s : Int), vi (p : Int), vr 5])) (S' := MS I J cc ss) 5 rfl ?_
  refine ev_cv rfl rfl rfl ⟨Nat.le_of_ble_eq_true rfl, Nat.le_of_ble_eq_true rfl⟩ (sp_hasItem_5 X _ _ _ _ (p : Int) (s : Int) hP hwp) ?_
  show Ev X k_X8_moveShape (12, [some (vr 0), some (vi (p : Int)), some (vi (s : Int)), some (vi x), some (vi y)], [vi (if 0 ≤ (p : Int) ∧ (p : Int) < g 11 ∧ 0 ≤ (s : Int) ∧ (s : Int) < g (37 * (p : Int).toNat + 12) then 1 else 0)]) (MS I J cc ss) _
  refine ev_s1 _ (⟨by omega, by omega, by omega, by rw [Int.toNat_natCast]; omega⟩) ?_
  show Ev X k_X8_moveShape (12, [some (vr 0), some (vi (p : Int)), some (vi (s : Int)), some (vi x), some (vi y)], [vi 1]) (MS I J cc ss) _
  refine ev_cv rfl rfl rfl ⟨Nat.le_of_ble_eq_true rfl, Nat.le_of_ble_eq_true rfl⟩ (sp_reqI1 X _) ?_
  show Ev X k_X8_moveShape (15, [some (vr 0), some (vi (p : Int)), some (vi (s : Int)), some (vi x), some (vi y)], []) (MS I J cc ss) _
  refine ev_n (fr' := (18, [some (vr 0), some (vi (p : Int)), some (vi (s : Int)), some (vi x), some (vi y)], [vi y, vi x])) (S' := MS I J cc ss) 2 rfl ?_
  refine ev_cv rfl rfl rfl ⟨Nat.le_of_ble_eq_true rfl, Nat.le_of_ble_eq_true rfl⟩ (sp_isShift8 X _ _ _ _ x y) ?_
  show Ev X k_X8_moveShape (21, [some (vr 0), some (vi (p : Int)), some (vi (s : Int)), some (vi x), some (vi y)], [vi (if (-48 ≤ x ∧ x ≤ 48) ∧ (-48 ≤ y ∧ y ≤ 48) then 1 else 0)]) (MS I J cc ss) _
  refine ev_beq _ rfl (by decide) (fun (g1 : ¬ ((-48 ≤ x ∧ x ≤ 48) ∧ (-48 ≤ y ∧ y ≤ 48))) => False.elim (g1 (h1))) (fun (g1 : (-48 ≤ x ∧ x ≤ 48) ∧ (-48 ≤ y ∧ y ≤ 48)) => ?_)
  show Ev X k_X8_moveShape (24, [some (vr 0), some (vi (p : Int)), some (vi (s : Int)), some (vi x), some (vi y)], []) (MS I J cc ss) _
  refine ev_n (fr' := (30, [some (vr 0), some (vi (p : Int)), some (vi (s : Int)), some (vi x), some (vi y)], [vi y, vi x, vi (s : Int), vi (p : Int), vr 0])) (S' := MS I J cc ss) 5 rfl ?_
  refine ev_cv rfl rfl rfl ⟨Nat.le_of_ble_eq_true rfl, Nat.le_of_ble_eq_true rfl⟩ (sp_canShift X _ _ _ _ p s x y hP hwp hp hs2 (by omega) (by omega)) ?_
  show Ev X k_X8_moveShape (33, [some (vr 0), some (vi (p : Int)), some (vi (s : Int)), some (vi x), some (vi y)], [vi (if canP g p s x y then 1 else 0)]) (MS I J cc ss) _
  refine ev_beq _ rfl (by decide) (fun (g2 : ¬ (canP g p s x y)) => False.elim (g2 (hc))) (fun (g2 : canP g p s x y) => ?_)
  show Ev X k_X8_moveShape (36, [some (vr 0), some (vi (p : Int)), some (vi (s : Int)), some (vi x), some (vi y)], []) (MS I J cc ss) _
  refine ev_n (fr' := (41, [some (vr 0), some (vi (p : Int)), some (vi (s : Int)), some (vi x), some (vi y)], [vi 1])) (S' := MS I J cc ss) 2 rfl ?_
  refine ev_cv rfl rfl rfl ⟨Nat.le_of_ble_eq_true rfl, Nat.le_of_ble_eq_true rfl⟩ (sp_reqA1 X _) ?_
  show Ev X k_X8_moveShape (44, [some (vr 0), some (vi (p : Int)), some (vi (s : Int)), some (vi x), some (vi y)], []) (MS I J cc ss) _
  refine ev_n (fr' := (52, [some (vr 0), some (vi (p : Int)), some (vi (s : Int)), some (vi x), some (vi y)], [vr 1, vr 13])) (S' := MS I J cc ss) 4 rfl ?_
  refine ev_cp rfl rfl rfl ⟨Nat.le_of_ble_eq_true rfl, Nat.le_of_ble_eq_true rfl⟩ (sp_rem X _ _ _ _ hH hR hw) (fun I1 J2 q3 => ?_)
  obtain ⟨hO, hH, hR⟩ := q3
  show Ev X k_X8_moveShape (55, [some (vr 0), some (vi (p : Int)), some (vi (s : Int)), some (vi x), some (vi y)], []) (MS I1 J2 cc ss) _
  have hS : SRep I1 1 g := hR.1
  have hP : PRep I1 J2 5 g := hR.2.1
  have hI : IRep I1 J2 9 g := hR.2.2
  refine ev_n (fr' := (62, [some (vr 0), some (vi (p : Int)), some (vi (s : Int)), some (vi x), some (vi y)], [vi y, vi x, vi (s : Int), vi (s : Int), vi (p : Int), vr 0])) (S' := MS I1 J2 cc ss) 6 rfl ?_
  refine ev_cp rfl rfl rfl ⟨Nat.le_of_ble_eq_true rfl, Nat.le_of_ble_eq_true rfl⟩ (sp_putSh X _ _ _ _ p s s x y hP h8 h6 hp hs2 hs2 (shp_rng hwp hp hs2) (by omega) (by omega)) (fun I4 J2 q5 => ?_)
  obtain ⟨rfl, r9, h9⟩ := q5
  show Ev X k_X8_moveShape (65, [some (vr 0), some (vi (p : Int)), some (vi (s : Int)), some (vi x), some (vi y)], []) (MS I4 J2 cc ss) _
  have hC := chgP hO hH hR hw (fun a h7 h8 => r9 a h8) h9 (fun k hk => by
    unfold wrS; rw [if_neg (by omega)])
  have hI := IRep.eqv (g' := g) hI hwi (fun _ _ => rfl) (fun a h1 h2 => ⟨r9 a (by omega), rfl⟩)
  refine ev_n (fr' := (70, [some (vr 0), some (vi (p : Int)), some (vi (s : Int)), some (vi x), some (vi y)], [vi (p : Int), vr 1])) (S' := MS I4 J2 cc ss) 3 rfl ?_
  refine ev_cv rfl rfl rfl ⟨Nat.le_of_ble_eq_true rfl, Nat.le_of_ble_eq_true rfl⟩ (sp_iconsWithPart X _ _ _ _ (p : Int) hI hwp hwi) ?_
  show Ev X k_X8_moveShape (73, [some (vr 0), some (vi (p : Int)), some (vi (s : Int)), some (vi x), some (vi y)], [vi (mkF g (p : Int) (g 308).toNat)]) (MS I4 J2 cc ss) _
  refine ev_cv rfl rfl rfl ⟨Nat.le_of_ble_eq_true rfl, Nat.le_of_ble_eq_true rfl⟩ (sp_bitCount X _ (mkF g (p : Int) (g 308).toNat) ) ?_
  show Ev X k_X8_moveShape (76, [some (vr 0), some (vi (p : Int)), some (vi (s : Int)), some (vi x), some (vi y)], [vi (popF (mkF g (p : Int) (g 308).toNat))]) (MS I4 J2 cc ss) _
  refine ev_r rfl rfl rfl ?_
  exact ⟨_, _, rfl, rfl, hC⟩
theorem pb_moveUse_x (X : AX) (I J : Nat → Nat → Int) (cc ss : Nat) {g : F1} (u t x y : Int) (hS : SRep I 1 g) (hP : PRep I J 5 g) (hI : IRep I J 9 g) (hws : WS g) (hwp : WP g) (hwi : WI g) (h : ¬ (0 ≤ u ∧ u < g 308 ∧ 0 ≤ t ∧ t < g (19 * u.toNat + 309))) : Ev X k_X8_moveUse (0, [some (vr 0), some (vi u), some (vi t), some (vi x), some (vi y)], []) (MS I J cc ss) (fun o T => o = .inr 2 ∧ T = MS I J (cc + 1) (ss + 6)) := by
  refine ev_n (fr' := (9, [some (vr 0), some (vi u), some (vi t), some (vi x), some (vi y)], [vi t, vi u, vr 9])) (S' := MS I J cc ss) 5 rfl ?_
  refine ev_cv rfl rfl rfl ⟨Nat.le_of_ble_eq_true rfl, Nat.le_of_ble_eq_true rfl⟩ (sp_hasItem_9 X _ _ _ _ u t hI hwi) ?_
  show Ev X k_X8_moveUse (12, [some (vr 0), some (vi u), some (vi t), some (vi x), some (vi y)], [vi (if 0 ≤ u ∧ u < g 308 ∧ 0 ≤ t ∧ t < g (19 * u.toNat + 309) then 1 else 0)]) (MS I J cc ss) _
  refine ev_s0 _ (h) ?_
  show Ev X k_X8_moveUse (12, [some (vr 0), some (vi u), some (vi t), some (vi x), some (vi y)], [vi 0]) (MS I J cc ss) _
  refine ev_cx rfl rfl rfl ⟨Nat.le_of_ble_eq_true rfl, Nat.le_of_ble_eq_true rfl⟩ (sp_reqI0 X _ _ _ _) rfl ?_
  exact ⟨rfl, rfl⟩
theorem pb_moveUse_y (X : AX) (I J : Nat → Nat → Int) (cc ss : Nat) {g : F1} (p s : Nat) (x y : Int) (hS : SRep I 1 g) (hP : PRep I J 5 g) (hI : IRep I J 9 g) (hws : WS g) (hwp : WP g) (hwi : WI g) (hp : (p : Int) < g 308) (hs2 : (s : Int) < g (19 * p + 309)) (h : ¬ ((-48 ≤ x ∧ x ≤ 48) ∧ (-48 ≤ y ∧ y ≤ 48))) : Ev X k_X8_moveUse (0, [some (vr 0), some (vi (p : Int)), some (vi (s : Int)), some (vi x), some (vi y)], []) (MS I J cc ss) (fun o T => o = .inr 1 ∧ T = MS I J (cc + 1) (ss + 6)) := by
  refine ev_n (fr' := (9, [some (vr 0), some (vi (p : Int)), some (vi (s : Int)), some (vi x), some (vi y)], [vi (s : Int), vi (p : Int), vr 9])) (S' := MS I J cc ss) 5 rfl ?_
  refine ev_cv rfl rfl rfl ⟨Nat.le_of_ble_eq_true rfl, Nat.le_of_ble_eq_true rfl⟩ (sp_hasItem_9 X _ _ _ _ (p : Int) (s : Int) hI hwi) ?_
  show Ev X k_X8_moveUse (12, [some (vr 0), some (vi (p : Int)), some (vi (s : Int)), some (vi x), some (vi y)], [vi (if 0 ≤ (p : Int) ∧ (p : Int) < g 308 ∧ 0 ≤ (s : Int) ∧ (s : Int) < g (19 * (p : Int).toNat + 309) then 1 else 0)]) (MS I J cc ss) _
  refine ev_s1 _ (⟨by omega, by omega, by omega, by rw [Int.toNat_natCast]; omega⟩) ?_
  show Ev X k_X8_moveUse (12, [some (vr 0), some (vi (p : Int)), some (vi (s : Int)), some (vi x), some (vi y)], [vi 1]) (MS I J cc ss) _
  refine ev_cv rfl rfl rfl ⟨Nat.le_of_ble_eq_true rfl, Nat.le_of_ble_eq_true rfl⟩ (sp_reqI1 X _) ?_
  show Ev X k_X8_moveUse (15, [some (vr 0), some (vi (p : Int)), some (vi (s : Int)), some (vi x), some (vi y)], []) (MS I J cc ss) _
  refine ev_n (fr' := (18, [some (vr 0), some (vi (p : Int)), some (vi (s : Int)), some (vi x), some (vi y)], [vi y, vi x])) (S' := MS I J cc ss) 2 rfl ?_
  refine ev_cv rfl rfl rfl ⟨Nat.le_of_ble_eq_true rfl, Nat.le_of_ble_eq_true rfl⟩ (sp_isShift8 X _ _ _ _ x y) ?_
  show Ev X k_X8_moveUse (21, [some (vr 0), some (vi (p : Int)), some (vi (s : Int)), some (vi x), some (vi y)], [vi (if (-48 ≤ x ∧ x ≤ 48) ∧ (-48 ≤ y ∧ y ≤ 48) then 1 else 0)]) (MS I J cc ss) _
  refine ev_s0 _ (h) ?_
  show Ev X k_X8_moveUse (21, [some (vr 0), some (vi (p : Int)), some (vi (s : Int)), some (vi x), some (vi y)], [vi 0]) (MS I J cc ss) _
  refine ev_cx rfl rfl rfl ⟨Nat.le_of_ble_eq_true rfl, Nat.le_of_ble_eq_true rfl⟩ (sp_reqA0 X _ _ _ _) rfl ?_
  exact ⟨rfl, rfl⟩
