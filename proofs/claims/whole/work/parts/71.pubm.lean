/-! PUBLIC CHANGES, class, extras, shapes, uses (printed by gen/g71.py) -/
theorem Hist.depth {I J : F2} {hs : Nat → F1} {m : Nat} (h : Hist I J hs m) : I 13 2 = (m : Int) := by obtain ⟨_, _, _, h, _⟩ := h; exact h
theorem pb_setExtra_x (X : AX) (I J : Nat → Nat → Int) (cc ss : Nat) {g : F1} (y z : Int) (hS : SRep I 1 g) (hP : PRep I J 5 g) (hI : IRep I J 9 g) (hws : WS g) (hwp : WP g) (hwi : WI g) (h : ¬ (0 ≤ y ∧ y < g 0)) : Ev X k_X8_setExtra (0, [some (vr 0), some (vi y), some (vi z), none], []) (MS I J cc ss) (fun o T => o = .inr 2 ∧ T = MS I J (cc + 1) (ss + 6)) := by
  refine ev_n (fr' := (8, [some (vr 0), some (vi y), some (vi z), none], [vi y, vr 2])) (S' := MS I J cc ss) 4 rfl ?_
  refine ev_cv rfl rfl rfl ⟨Nat.le_of_ble_eq_true rfl, Nat.le_of_ble_eq_true rfl⟩ (sp_has_2 X _ _ _ _ y hS) ?_
  show Ev X k_X8_setExtra (11, [some (vr 0), some (vi y), some (vi z), none], [vi (if 0 ≤ y ∧ y < g 0 then 1 else 0)]) (MS I J cc ss) _
  refine ev_s0 _ (h) ?_
  show Ev X k_X8_setExtra (11, [some (vr 0), some (vi y), some (vi z), none], [vi 0]) (MS I J cc ss) _
  refine ev_cx rfl rfl rfl ⟨Nat.le_of_ble_eq_true rfl, Nat.le_of_ble_eq_true rfl⟩ (sp_reqI0 X _ _ _ _) rfl ?_
  exact ⟨rfl, rfl⟩
theorem pb_setExtra_y (X : AX) (I J : Nat → Nat → Int) (cc ss : Nat) {g : F1} (k : Nat) (z : Int) (hS : SRep I 1 g) (hP : PRep I J 5 g) (hI : IRep I J 9 g) (hws : WS g) (hwp : WP g) (hwi : WI g) (hk : (k : Int) < g 0) (h : ¬ (-2 ≤ z ∧ z ≤ 2)) : Ev X k_X8_setExtra (0, [some (vr 0), some (vi (k : Int)), some (vi z), none], []) (MS I J cc ss) (fun o T => o = .inr 1 ∧ T = MS I J (cc + 1) (ss + 6)) := by
  refine ev_n (fr' := (8, [some (vr 0), some (vi (k : Int)), some (vi z), none], [vi (k : Int), vr 2])) (S' := MS I J cc ss) 4 rfl ?_
  refine ev_cv rfl rfl rfl ⟨Nat.le_of_ble_eq_true rfl, Nat.le_of_ble_eq_true rfl⟩ (sp_has_2 X _ _ _ _ (k : Int) hS) ?_
  show Ev X k_X8_setExtra (11, [some (vr 0), some (vi (k : Int)), some (vi z), none], [vi (if 0 ≤ (k : Int) ∧ (k : Int) < g 0 then 1 else 0)]) (MS I J cc ss) _
  refine ev_s1 _ (by omega) ?_
  show Ev X k_X8_setExtra (11, [some (vr 0), some (vi (k : Int)), some (vi z), none], [vi 1]) (MS I J cc ss) _
  refine ev_cv rfl rfl rfl ⟨Nat.le_of_ble_eq_true rfl, Nat.le_of_ble_eq_true rfl⟩ (sp_reqI1 X _) ?_
  show Ev X k_X8_setExtra (14, [some (vr 0), some (vi (k : Int)), some (vi z), none], []) (MS I J cc ss) _
  refine ev_n (fr' := (18, [some (vr 0), some (vi (k : Int)), some (vi z), none], [vi 2, vi (-2), vi z])) (S' := MS I J cc ss) 3 rfl ?_
  refine ev_cv rfl rfl rfl ⟨Nat.le_of_ble_eq_true rfl, Nat.le_of_ble_eq_true rfl⟩ (sp_within X _ z (-2) 2 ) ?_
  show Ev X k_X8_setExtra (21, [some (vr 0), some (vi (k : Int)), some (vi z), none], [vi (if -2 ≤ z ∧ z ≤ 2 then 1 else 0)]) (MS I J cc ss) _
  refine ev_s0 _ (h) ?_
  show Ev X k_X8_setExtra (21, [some (vr 0), some (vi (k : Int)), some (vi z), none], [vi 0]) (MS I J cc ss) _
  refine ev_cx rfl rfl rfl ⟨Nat.le_of_ble_eq_true rfl, Nat.le_of_ble_eq_true rfl⟩ (sp_reqA0 X _ _ _ _) rfl ?_
  exact ⟨rfl, rfl⟩
theorem pb_setExtra (X : AX) (I J : Nat → Nat → Int) (cc ss : Nat) (k : Nat) (z : Int) {g : F1} {hs : Nat → F1} {m : Nat} (hH : Hist I J hs m) (hR : SetR I J 1 g) (hw : WF g) (hk : (k : Int) < g 0) (h : -2 ≤ z ∧ z ≤ 2) : Ev X k_X8_setExtra (0, [some (vr 0), some (vi (k : Int)), some (vi z), none], []) (MS I J cc ss) (PV cc ss (some (vi (g (2 * k + 2)))) (fun I' J' => onlyC I I' J J' ∧ Hist I' J' (remH hs m g) (remM m) ∧ SetR I' J' 1 (upd1 g (2 * k + 2) z))) := by
  have hS : SRep I 1 g := hR.1
  have hP : PRep I J 5 g := hR.2.1
  have hI : IRep I J 9 g := hR.2.2
  have hws := hw.1
  have hwp := hw.2.1
  have hwi := hw.2.2
  have h5 := hws.2.1
  refine ev_n (fr' := (8, [some (vr 0), some (vi (k : Int)), some (vi z), none], [vi (k : Int), vr 2])) (S' := MS I J cc ss) 4 rfl ?_
  refine ev_cv rfl rfl rfl ⟨Nat.le_of_ble_eq_true rfl, Nat.le_of_ble_eq_true rfl⟩ (sp_has_2 X _ _ _ _ (k : Int) hS) ?_
  show Ev X k_X8_setExtra (11, [some (vr 0), some (vi (k : Int)), some (vi z), none], [vi (if 0 ≤ (k : Int) ∧ (k : Int) < g 0 then 1 else 0)]) (MS I J cc ss) _
  refine ev_s1 _ (by omega) ?_
  show Ev X k_X8_setExtra (11, [some (vr 0), some (vi (k : Int)), some (vi z), none], [vi 1]) (MS I J cc ss) _
  refine ev_cv rfl rfl rfl ⟨Nat.le_of_ble_eq_true rfl, Nat.le_of_ble_eq_true rfl⟩ (sp_reqI1 X _) ?_
  show Ev X k_X8_setExtra (14, [some (vr 0), some (vi (k : Int)), some (vi z), none], []) (MS I J cc ss) _
  refine ev_n (fr' := (18, [some (vr 0), some (vi (k : Int)), some (vi z), none], [vi 2, vi (-2), vi z])) (S' := MS I J cc ss) 3 rfl ?_
  refine ev_cv rfl rfl rfl ⟨Nat.le_of_ble_eq_true rfl, Nat.le_of_ble_eq_true rfl⟩ (sp_within X _ z (-2) 2 ) ?_
  show Ev X k_X8_setExtra (21, [some (vr 0), some (vi (k : Int)), some (vi z), none], [vi (if -2 ≤ z ∧ z ≤ 2 then 1 else 0)]) (MS I J cc ss) _
  refine ev_s1 _ (h) ?_
  show Ev X k_X8_setExtra (21, [some (vr 0), some (vi (k : Int)), some (vi z), none], [vi 1]) (MS I J cc ss) _
  refine ev_cv rfl rfl rfl ⟨Nat.le_of_ble_eq_true rfl, Nat.le_of_ble_eq_true rfl⟩ (sp_reqA1 X _) ?_
  show Ev X k_X8_setExtra (24, [some (vr 0), some (vi (k : Int)), some (vi z), none], []) (MS I J cc ss) _
  refine ev_n (fr' := (32, [some (vr 0), some (vi (k : Int)), some (vi z), none], [vr 1, vr 13])) (S' := MS I J cc ss) 4 rfl ?_
  refine ev_cp rfl rfl rfl ⟨Nat.le_of_ble_eq_true rfl, Nat.le_of_ble_eq_true rfl⟩ (sp_rem X _ _ _ _ hH hR hw) (fun I1 J2 q3 => ?_)
  obtain ⟨hO, hH, hR⟩ := q3
  show Ev X k_X8_setExtra (35, [some (vr 0), some (vi (k : Int)), some (vi z), none], []) (MS I1 J2 cc ss) _
  have hS : SRep I1 1 g := hR.1
  have hP : PRep I1 J2 5 g := hR.2.1
  have hI : IRep I1 J2 9 g := hR.2.2
  refine ev_n (fr' := (43, [some (vr 0), some (vi (k : Int)), some (vi z), none], [vi (k : Int), vr 2])) (S' := MS I1 J2 cc ss) 4 rfl ?_
  refine ev_cv rfl rfl rfl ⟨Nat.le_of_ble_eq_true rfl, Nat.le_of_ble_eq_true rfl⟩ (sp_extraOf_2 X _ _ _ _ k hS hws (by omega)) ?_
  show Ev X k_X8_setExtra (46, [some (vr 0), some (vi (k : Int)), some (vi z), none], [vi (g (2 * k + 2))]) (MS I1 J2 cc ss) _
  refine ev_n (fr' := (56, [some (vr 0), some (vi (k : Int)), some (vi z), some (vi (g (2 * k + 2)))], [vi z, vi (k : Int), vr 2])) (S' := MS I1 J2 cc ss) 6 rfl ?_
  refine ev_cv rfl rfl rfl ⟨Nat.le_of_ble_eq_true rfl, Nat.le_of_ble_eq_true rfl⟩ (sp_putExtra_1 X _ _ _ _ k z hS hk h5) ?_
  show Ev X k_X8_setExtra (59, [some (vr 0), some (vi (k : Int)), some (vi z), some (vi (g (2 * k + 2)))], []) (MS (up2 I1 4 k z) J2 cc ss) _
  refine ev_n (fr' := (60, [some (vr 0), some (vi (k : Int)), some (vi z), some (vi (g (2 * k + 2)))], [vi (g (2 * k + 2))])) (S' := MS (up2 I1 4 k z) J2 cc ss) 1 rfl ?_
  refine ev_r rfl rfl rfl ?_
  exact ⟨_, _, rfl, rfl, chgS hO hH hR hw (fun a h2 h3 h4 => up2_row _ _ _ _ h4) (SRep.ext hS hk) (fun q hq => if_neg (by omega))⟩
theorem sp_itemsN_5 (X : AX) (I J : Nat → Nat → Int) (cc ss : Nat) {g : F1} (p : Nat) (hP : PRep I J 5 g) (hp8 : p < 8) (hp : (p : Int) < g 11) : Ev X k_X3_itemsOf (0, [some (vr 5), some (vi (p : Int))], []) (MS I J cc ss) (fun o T => o = .inl (some (vi (I 7 p))) ∧ T = MS I J cc ss) := by
  refine ev_n (fr' := (2, [some (vr 5), some (vi (p : Int))], [vi (p : Int), vr 5])) (S' := MS I J cc ss) 2 rfl ?_
  refine ev_cv rfl rfl rfl ⟨Nat.le_of_ble_eq_true rfl, Nat.le_of_ble_eq_true rfl⟩ (sp_hasRow_5 X _ _ _ _ (p : Int) hP) ?_
  show Ev X k_X3_itemsOf (5, [some (vr 5), some (vi (p : Int))], [vi (if 0 ≤ (p : Int) ∧ (p : Int) < g 11 then 1 else 0)]) (MS I J cc ss) _
  refine ev_beq _ rfl (by decide) (fun (g1 : ¬ (0 ≤ (p : Int) ∧ (p : Int) < g 11)) => False.elim (by omega)) (fun (g1 : 0 ≤ (p : Int) ∧ (p : Int) < g 11) => ?_)
  show Ev X k_X3_itemsOf (8, [some (vr 5), some (vi (p : Int))], []) (MS I J cc ss) _
  refine ev_n (fr' := (13, [some (vr 5), some (vi (p : Int))], [vi (p : Int), vr 7])) (S' := MS I J cc ss) 3 rfl ?_
  refine ev_iaN (j := p) (z := (I 7 p)) rfl rfl (by omega) (by omega) (rfl) ?_
  show Ev X k_X3_itemsOf (14, [some (vr 5), some (vi (p : Int))], [vi (I 7 p)]) (MS I J cc ss) _
  refine ev_n (fr' := (18, [some (vr 5), some (vi (p : Int))], [vi (I 7 p)])) (S' := MS I J cc ss) 1 rfl ?_
  refine ev_r rfl rfl rfl ?_
  exact ⟨rfl, rfl⟩
theorem sp_itemsN_9 (X : AX) (I J : Nat → Nat → Int) (cc ss : Nat) {g : F1} (p : Nat) (hI : IRep I J 9 g) (hp8 : p < 8) (hp : (p : Int) < g 308) : Ev X k_X3_itemsOf (0, [some (vr 9), some (vi (p : Int))], []) (MS I J cc ss) (fun o T => o = .inl (some (vi (I 11 p))) ∧ T = MS I J cc ss) := by
  refine ev_n (fr' := (2, [some (vr 9), some (vi (p : Int))], [vi (p : Int), vr 9])) (S' := MS I J cc ss) 2 rfl ?_
  refine ev_cv rfl rfl rfl ⟨Nat.le_of_ble_eq_true rfl, Nat.le_of_ble_eq_true rfl⟩ (sp_hasRow_9 X _ _ _ _ (p : Int) hI) ?_
  show Ev X k_X3_itemsOf (5, [some (vr 9), some (vi (p : Int))], [vi (if 0 ≤ (p : Int) ∧ (p : Int) < g 308 then 1 else 0)]) (MS I J cc ss) _
  refine ev_beq _ rfl (by decide) (fun (g1 : ¬ (0 ≤ (p : Int) ∧ (p : Int) < g 308)) => False.elim (by omega)) (fun (g1 : 0 ≤ (p : Int) ∧ (p : Int) < g 308) => ?_)
  show Ev X k_X3_itemsOf (8, [some (vr 9), some (vi (p : Int))], []) (MS I J cc ss) _
  refine ev_n (fr' := (13, [some (vr 9), some (vi (p : Int))], [vi (p : Int), vr 11])) (S' := MS I J cc ss) 3 rfl ?_
  refine ev_iaN (j := p) (z := (I 11 p)) rfl rfl (by omega) (by omega) (rfl) ?_
  show Ev X k_X3_itemsOf (14, [some (vr 9), some (vi (p : Int))], [vi (I 11 p)]) (MS I J cc ss) _
  refine ev_n (fr' := (18, [some (vr 9), some (vi (p : Int))], [vi (I 11 p)])) (S' := MS I J cc ss) 1 rfl ?_
  refine ev_r rfl rfl rfl ?_
  exact ⟨rfl, rfl⟩
theorem pb_removeShape_x (X : AX) (I J : Nat → Nat → Int) (cc ss : Nat) {g : F1} (y t : Int) (hS : SRep I 1 g) (hP : PRep I J 5 g) (hI : IRep I J 9 g) (hws : WS g) (hwp : WP g) (hwi : WI g) (h : ¬ (0 ≤ y ∧ y < g 11 ∧ 0 ≤ t ∧ t < g (37 * y.toNat + 12))) : Ev X k_X8_removeShape (0, [some (vr 0), some (vi y), some (vi t)], []) (MS I J cc ss) (fun o T => o = .inr 2 ∧ T = MS I J (cc + 1) (ss + 6)) := by
  refine ev_n (fr' := (9, [some (vr 0), some (vi y), some (vi t)], [vi t, vi y, vr 5])) (S' := MS I J cc ss) 5 rfl ?_
  refine ev_cv rfl rfl rfl ⟨Nat.le_of_ble_eq_true rfl, Nat.le_of_ble_eq_true rfl⟩ (sp_hasItem_5 X _ _ _ _ y t hP hwp) ?_
  show Ev X k_X8_removeShape (12, [some (vr 0), some (vi y), some (vi t)], [vi (if 0 ≤ y ∧ y < g 11 ∧ 0 ≤ t ∧ t < g (37 * y.toNat + 12) then 1 else 0)]) (MS I J cc ss) _
  refine ev_s0 _ (h) ?_
  show Ev X k_X8_removeShape (12, [some (vr 0), some (vi y), some (vi t)], [vi 0]) (MS I J cc ss) _
  refine ev_cx rfl rfl rfl ⟨Nat.le_of_ble_eq_true rfl, Nat.le_of_ble_eq_true rfl⟩ (sp_reqI0 X _ _ _ _) rfl ?_
  exact ⟨rfl, rfl⟩
theorem pb_removeShape_y (X : AX) (I J : Nat → Nat → Int) (cc ss : Nat) {g : F1} (p s : Nat) (hS : SRep I 1 g) (hP : PRep I J 5 g) (hI : IRep I J 9 g) (hws : WS g) (hwp : WP g) (hwi : WI g) (hp : (p : Int) < g 11) (hs : (s : Int) < g (37 * p + 12)) (h : g (37 * p + 12) ≤ 1) : Ev X k_X8_removeShape (0, [some (vr 0), some (vi (p : Int)), some (vi (s : Int))], []) (MS I J cc ss) (fun o T => o = .inr 0 ∧ T = MS I J (cc + 1) (ss + 6)) := by
  refine ev_n (fr' := (9, [some (vr 0), some (vi (p : Int)), some (vi (s : Int))], [vi (s : Int), vi (p : Int), vr 5])) (S' := MS I J cc ss) 5 rfl ?_
  refine ev_cv rfl rfl rfl ⟨Nat.le_of_ble_eq_true rfl, Nat.le_of_ble_eq_true rfl⟩ (sp_hasItem_5 X _ _ _ _ (p : Int) (s : Int) hP hwp) ?_
  show Ev X k_X8_removeShape (12, [some (vr 0), some (vi (p : Int)), some (vi (s : Int))], [vi (if 0 ≤ (p : Int) ∧ (p : Int) < g 11 ∧ 0 ≤ (s : Int) ∧ (s : Int) < g (37 * (p : Int).toNat + 12) then 1 else 0)]) (MS I J cc ss) _
  refine ev_s1 _ (⟨by omega, by omega, by omega, by rw [Int.toNat_natCast]; omega⟩) ?_
  show Ev X k_X8_removeShape (12, [some (vr 0), some (vi (p : Int)), some (vi (s : Int))], [vi 1]) (MS I J cc ss) _
  refine ev_cv rfl rfl rfl ⟨Nat.le_of_ble_eq_true rfl, Nat.le_of_ble_eq_true rfl⟩ (sp_reqI1 X _) ?_
  show Ev X k_X8_removeShape (15, [some (vr 0), some (vi (p : Int)), some (vi (s : Int))], []) (MS I J cc ss) _
  refine ev_n (fr' := (23, [some (vr 0), some (vi (p : Int)), some (vi (s : Int))], [vi (p : Int), vr 5])) (S' := MS I J cc ss) 4 rfl ?_
  refine ev_cv rfl rfl rfl ⟨Nat.le_of_ble_eq_true rfl, Nat.le_of_ble_eq_true rfl⟩ (sp_itemsOf_5 X _ _ _ _ p hP hwp (by omega)) ?_
  show Ev X k_X8_removeShape (26, [some (vr 0), some (vi (p : Int)), some (vi (s : Int))], [vi (g (37 * p + 12))]) (MS I J cc ss) _
  refine ev_n (fr' := (27, [some (vr 0), some (vi (p : Int)), some (vi (s : Int))], [vi 1, vi (g (37 * p + 12))])) (S' := MS I J cc ss) 1 rfl ?_
  refine ev_ic (c := .le) (off := 7) rfl (by decide) (fun (g1 : (g (37 * p + 12)) ≤ 1) => ?_) (fun (g1 : ¬ ((g (37 * p + 12)) ≤ 1)) => False.elim (by omega))
  show Ev X k_X8_removeShape (34, [some (vr 0), some (vi (p : Int)), some (vi (s : Int))], []) (MS I J cc ss) _
  refine ev_n (fr' := (35, [some (vr 0), some (vi (p : Int)), some (vi (s : Int))], [vi 0])) (S' := MS I J cc ss) 1 rfl ?_
  refine ev_cx rfl rfl rfl ⟨Nat.le_of_ble_eq_true rfl, Nat.le_of_ble_eq_true rfl⟩ (sp_reqS0 X _ _ _ _) rfl ?_
  exact ⟨rfl, rfl⟩
theorem pb_removeShape (X : AX) (I J : Nat → Nat → Int) (cc ss : Nat) (p s n : Nat) {g : F1} {hs : Nat → F1} {m : Nat} (hH : Hist I J hs m) (hR : SetR I J 1 g) (hw : WF g) (hp : (p : Int) < g 11) (hn : g (37 * p + 12) = (n : Int)) (hsn : s < n) (hn1 : 1 < n) : Ev X k_X8_removeShape (0, [some (vr 0), some (vi (p : Int)), some (vi (s : Int))], []) (MS I J cc ss) (PV cc ss (some (vi (((n - 1 : Nat) : Int)))) (fun I' J' => onlyC I I' J J' ∧ Hist I' J' (remH hs m g) (remM m) ∧ SetR I' J' 1 (upd1 (shD g (37 * p + 6 * s + 13) (37 * p + 6 * (n - 1) + 13) 6) (37 * p + 12) ((n - 1 : Nat) : Int)))) := by
  have hS : SRep I 1 g := hR.1
  have hP : PRep I J 5 g := hR.2.1
  have hI : IRep I J 9 g := hR.2.2
  have hws := hw.1
  have hwp := hw.2.1
  have hwi := hw.2.2
  have h8 := hwp.2.1
  have h6 := (hwp.2.2 p hp)
  refine ev_n (fr' := (9, [some (vr 0), some (vi (p : Int)), some (vi (s : Int))], [vi (s : Int), vi (p : Int), vr 5])) (S' := MS I J cc ss) 5 rfl ?_
  refine ev_cv rfl rfl rfl ⟨Nat.le_of_ble_eq_true rfl, Nat.le_of_ble_eq_true rfl⟩ (sp_hasItem_5 X _ _ _ _ (p : Int) (s : Int) hP hwp) ?_
  show Ev X k_X8_removeShape (12, [some (vr 0), some (vi (p : Int)), some (vi (s : Int))], [vi (if 0 ≤ (p : Int) ∧ (p : Int) < g 11 ∧ 0 ≤ (s : Int) ∧ (s : Int) < g (37 * (p : Int).toNat + 12) then 1 else 0)]) (MS I J cc ss) _
  refine ev_s1 _ (⟨by omega, by omega, by omega, by rw [Int.toNat_natCast]; omega⟩) ?_
  show Ev X k_X8_removeShape (12, [some (vr 0), some (vi (p : Int)), some (vi (s : Int))], [vi 1]) (MS I J cc ss) _
  refine ev_cv rfl rfl rfl ⟨Nat.le_of_ble_eq_true rfl, Nat.le_of_ble_eq_true rfl⟩ (sp_reqI1 X _) ?_
  show Ev X k_X8_removeShape (15, [some (vr 0), some (vi (p : Int)), some (vi (s : Int))], []) (MS I J cc ss) _
  refine ev_n (fr' := (23, [some (vr 0), some (vi (p : Int)), some (vi (s : Int))], [vi (p : Int), vr 5])) (S' := MS I J cc ss) 4 rfl ?_
  refine ev_cv rfl rfl rfl ⟨Nat.le_of_ble_eq_true rfl, Nat.le_of_ble_eq_true rfl⟩ (sp_itemsOf_5 X _ _ _ _ p hP hwp (by omega)) ?_
  show Ev X k_X8_removeShape (26, [some (vr 0), some (vi (p : Int)), some (vi (s : Int))], [vi (g (37 * p + 12))]) (MS I J cc ss) _
  refine ev_n (fr' := (27, [some (vr 0), some (vi (p : Int)), some (vi (s : Int))], [vi 1, vi (g (37 * p + 12))])) (S' := MS I J cc ss) 1 rfl ?_
  refine ev_ic (c := .le) (off := 7) rfl (by decide) (fun (g1 : (g (37 * p + 12)) ≤ 1) => False.elim (by omega)) (fun (g1 : ¬ ((g (37 * p + 12)) ≤ 1)) => ?_)
  show Ev X k_X8_removeShape (30, [some (vr 0), some (vi (p : Int)), some (vi (s : Int))], []) (MS I J cc ss) _
  refine ev_n (fr' := (35, [some (vr 0), some (vi (p : Int)), some (vi (s : Int))], [vi 1])) (S' := MS I J cc ss) 2 rfl ?_
  refine ev_cv rfl rfl rfl ⟨Nat.le_of_ble_eq_true rfl, Nat.le_of_ble_eq_true rfl⟩ (sp_reqS1 X _) ?_
  show Ev X k_X8_removeShape (38, [some (vr 0), some (vi (p : Int)), some (vi (s : Int))], []) (MS I J cc ss) _
  refine ev_n (fr' := (46, [some (vr 0), some (vi (p : Int)), some (vi (s : Int))], [vr 1, vr 13])) (S' := MS I J cc ss) 4 rfl ?_
  refine ev_cp rfl rfl rfl ⟨Nat.le_of_ble_eq_true rfl, Nat.le_of_ble_eq_true rfl⟩ (sp_rem X _ _ _ _ hH hR hw) (fun I1 J2 q3 => ?_)
  obtain ⟨hO, hH, hR⟩ := q3
  show Ev X k_X8_removeShape (49, [some (vr 0), some (vi (p : Int)), some (vi (s : Int))], []) (MS I1 J2 cc ss) _
  have hS : SRep I1 1 g := hR.1
  have hP : PRep I1 J2 5 g := hR.2.1
  have hI : IRep I1 J2 9 g := hR.2.2
  refine ev_n (fr' := (58, [some (vr 0), some (vi (p : Int)), some (vi (s : Int))], [vi (s : Int), vi (p : Int), vr 5])) (S' := MS I1 J2 cc ss) 5 rfl ?_
  refine ev_cp rfl rfl rfl ⟨Nat.le_of_ble_eq_true rfl, Nat.le_of_ble_eq_true rfl⟩ (sp_dropItem_5 X _ _ _ _ p s n hP hwp hp hn (by omega) (by omega)) (fun I4 J2 q5 => ?_)
  obtain ⟨rfl, r9, h9⟩ := q5
  show Ev X k_X8_removeShape (61, [some (vr 0), some (vi (p : Int)), some (vi (s : Int))], []) (MS I4 J2 cc ss) _
  have hC := chgP hO hH hR hw r9 h9 (fun k hk => by
    unfold upd1 shD; rw [if_neg (by omega), if_neg (by omega)])
  have e11 : (upd1 (shD g (37 * p + 6 * s + 13) (37 * p + 6 * (n - 1) + 13) 6) (37 * p + 12) ((n - 1 : Nat) : Int)) 11 = g 11 := by
    unfold upd1 shD; rw [if_neg (by omega), if_neg (by omega)]
  have e7 := (h9.2.2 p (by rw [e11]; exact hp)).2.1
  have e8 : (upd1 (shD g (37 * p + 6 * s + 13) (37 * p + 6 * (n - 1) + 13) 6) (37 * p + 12) ((n - 1 : Nat) : Int)) (37 * p + 12) = ((n - 1 : Nat) : Int) := if_pos rfl
  refine ev_n (fr' := (69, [some (vr 0), some (vi (p : Int)), some (vi (s : Int))], [vi (p : Int), vr 5])) (S' := MS I4 J2 cc ss) 4 rfl ?_
  refine ev_cv rfl rfl rfl ⟨Nat.le_of_ble_eq_true rfl, Nat.le_of_ble_eq_true rfl⟩ (sp_itemsN_5 X _ _ _ _ p h9 (by omega) (by rw [e11]; exact hp)) ?_
  show Ev X k_X8_removeShape (72, [some (vr 0), some (vi (p : Int)), some (vi (s : Int))], [vi (I4 7 p)]) (MS I4 J2 cc ss) _
  refine ev_r rfl rfl rfl ?_
  exact ⟨_, _, rfl, congrArg (fun z => Sum.inl (some (vi z))) (e7.trans e8), hC⟩
theorem pb_removeUse_x (X : AX) (I J : Nat → Nat → Int) (cc ss : Nat) {g : F1} (y t : Int) (hS : SRep I 1 g) (hP : PRep I J 5 g) (hI : IRep I J 9 g) (hws : WS g) (hwp : WP g) (hwi : WI g) (h : ¬ (0 ≤ y ∧ y < g 308 ∧ 0 ≤ t ∧ t < g (19 * y.toNat + 309))) : Ev X k_X8_removeUse (0, [some (vr 0), some (vi y), some (vi t)], []) (MS I J cc ss) (fun o T => o = .inr 2 ∧ T = MS I J (cc + 1) (ss + 6)) := by
  refine ev_n (fr' := (9, [some (vr 0), some (vi y), some (vi t)], [vi t, vi y, vr 9])) (S' := MS I J cc ss) 5 rfl ?_
  refine ev_cv rfl rfl rfl ⟨Nat.le_of_ble_eq_true rfl, Nat.le_of_ble_eq_true rfl⟩ (sp_hasItem_9 X _ _ _ _ y t hI hwi) ?_
  show Ev X k_X8_removeUse (12, [some (vr 0), some (vi y), some (vi t)], [vi (if 0 ≤ y ∧ y < g 308 ∧ 0 ≤ t ∧ t < g (19 * y.toNat + 309) then 1 else 0)]) (MS I J cc ss) _
  refine ev_s0 _ (h) ?_
  show Ev X k_X8_removeUse (12, [some (vr 0), some (vi y), some (vi t)], [vi 0]) (MS I J cc ss) _
  refine ev_cx rfl rfl rfl ⟨Nat.le_of_ble_eq_true rfl, Nat.le_of_ble_eq_true rfl⟩ (sp_reqI0 X _ _ _ _) rfl ?_
  exact ⟨rfl, rfl⟩
theorem pb_removeUse (X : AX) (I J : Nat → Nat → Int) (cc ss : Nat) (p s n : Nat) {g : F1} {hs : Nat → F1} {m : Nat} (hH : Hist I J hs m) (hR : SetR I J 1 g) (hw : WF g) (hp : (p : Int) < g 308) (hn : g (19 * p + 309) = (n : Int)) (hsn : s < n) : Ev X k_X8_removeUse (0, [some (vr 0), some (vi (p : Int)), some (vi (s : Int))], []) (MS I J cc ss) (PV cc ss (some (vi (((n - 1 : Nat) : Int)))) (fun I' J' => onlyC I I' J J' ∧ Hist I' J' (remH hs m g) (remM m) ∧ SetR I' J' 1 (upd1 (shD g (19 * p + 3 * s + 310) (19 * p + 3 * (n - 1) + 310) 3) (19 * p + 309) ((n - 1 : Nat) : Int)))) := by
  have hS : SRep I 1 g := hR.1
  have hP : PRep I J 5 g := hR.2.1
  have hI : IRep I J 9 g := hR.2.2
  have hws := hw.1
  have hwp := hw.2.1
  have hwi := hw.2.2
  have h8 := hwi.2.1
  have h6 := (hwi.2.2 p hp)
  refine ev_n (fr' := (9, [some (vr 0), some (vi (p : Int)), some (vi (s : Int))], [vi (s : Int), vi (p : Int), vr 9])) (S' := MS I J cc ss) 5 rfl ?_
  refine ev_cv rfl rfl rfl ⟨Nat.le_of_ble_eq_true rfl, Nat.le_of_ble_eq_true rfl⟩ (sp_hasItem_9 X _ _ _ _ (p : Int) (s : Int) hI hwi) ?_
  show Ev X k_X8_removeUse (12, [some (vr 0), some (vi (p : Int)), some (vi (s : Int))], [vi (if 0 ≤ (p : Int) ∧ (p : Int) < g 308 ∧ 0 ≤ (s : Int) ∧ (s : Int) < g (19 * (p : Int).toNat + 309) then 1 else 0)]) (MS I J cc ss) _
  refine ev_s1 _ (⟨by omega, by omega, by omega, by rw [Int.toNat_natCast]; omega⟩) ?_
  show Ev X k_X8_removeUse (12, [some (vr 0), some (vi (p : Int)), some (vi (s : Int))], [vi 1]) (MS I J cc ss) _
  refine ev_cv rfl rfl rfl ⟨Nat.le_of_ble_eq_true rfl, Nat.le_of_ble_eq_true rfl⟩ (sp_reqI1 X _) ?_
  show Ev X k_X8_removeUse (15, [some (vr 0), some (vi (p : Int)), some (vi (s : Int))], []) (MS I J cc ss) _
  refine ev_n (fr' := (23, [some (vr 0), some (vi (p : Int)), some (vi (s : Int))], [vr 1, vr 13])) (S' := MS I J cc ss) 4 rfl ?_
  refine ev_cp rfl rfl rfl ⟨Nat.le_of_ble_eq_true rfl, Nat.le_of_ble_eq_true rfl⟩ (sp_rem X _ _ _ _ hH hR hw) (fun I1 J2 q3 => ?_)
  obtain ⟨hO, hH, hR⟩ := q3
  show Ev X k_X8_removeUse (26, [some (vr 0), some (vi (p : Int)), some (vi (s : Int))], []) (MS I1 J2 cc ss) _
  have hS : SRep I1 1 g := hR.1
  have hP : PRep I1 J2 5 g := hR.2.1
  have hI : IRep I1 J2 9 g := hR.2.2
  refine ev_n (fr' := (35, [some (vr 0), some (vi (p : Int)), some (vi (s : Int))], [vi (s : Int), vi (p : Int), vr 9])) (S' := MS I1 J2 cc ss) 5 rfl ?_
  refine ev_cp rfl rfl rfl ⟨Nat.le_of_ble_eq_true rfl, Nat.le_of_ble_eq_true rfl⟩ (sp_dropItem_9 X _ _ _ _ p s n hI hwi hp hn (by omega) (by omega)) (fun I4 J2 q5 => ?_)
  obtain ⟨rfl, r9, h9⟩ := q5
  show Ev X k_X8_removeUse (38, [some (vr 0), some (vi (p : Int)), some (vi (s : Int))], []) (MS I4 J2 cc ss) _
  have hC := chgI hO hH hR hw r9 h9 (fun k hk => by
    unfold upd1 shD; rw [if_neg (by omega), if_neg (by omega)])
  have e11 : (upd1 (shD g (19 * p + 3 * s + 310) (19 * p + 3 * (n - 1) + 310) 3) (19 * p + 309) ((n - 1 : Nat) : Int)) 308 = g 308 := by
    unfold upd1 shD; rw [if_neg (by omega), if_neg (by omega)]
  have e7 := (h9.2.2 p (by rw [e11]; exact hp)).2.1
  have e8 : (upd1 (shD g (19 * p + 3 * s + 310) (19 * p + 3 * (n - 1) + 310) 3) (19 * p + 309) ((n - 1 : Nat) : Int)) (19 * p + 309) = ((n - 1 : Nat) : Int) := if_pos rfl
  refine ev_n (fr' := (46, [some (vr 0), some (vi (p : Int)), some (vi (s : Int))], [vi (p : Int), vr 9])) (S' := MS I4 J2 cc ss) 4 rfl ?_
  refine ev_cv rfl rfl rfl ⟨Nat.le_of_ble_eq_true rfl, Nat.le_of_ble_eq_true rfl⟩ (sp_itemsN_9 X _ _ _ _ p h9 (by omega) (by rw [e11]; exact hp)) ?_
  show Ev X k_X8_removeUse (49, [some (vr 0), some (vi (p : Int)), some (vi (s : Int))], [vi (I4 11 p)]) (MS I4 J2 cc ss) _
  refine ev_r rfl rfl rfl ?_
  exact ⟨_, _, rfl, congrArg (fun z => Sum.inl (some (vi z))) (e7.trans e8), hC⟩
