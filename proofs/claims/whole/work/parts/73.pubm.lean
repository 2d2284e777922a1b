/-! PUBLIC CHANGES, class, uses (printed by gen/g73.py) -/
def UK (g : F1) (p s : Nat) : Prop := g 308 ≤ 8 ∧ (∀ q : Nat, (q : Int) < g 308 → g (19 * q + 309) ≤ 6) ∧ (p : Int) < g 308 ∧ (s : Int) < g (19 * p + 309)
theorem UK.upd {g : F1} {p s w : Nat} {x : Int} (h : UK g p s) (hw : w < 3) : UK (upd1 g (19 * p + 3 * s + w + 310) x) p s := by
  obtain ⟨h1, h2, h3, h4⟩ := h
  have h5 := h2 p h3
  have e : ∀ q : Nat, (q : Int) < g 308 → upd1 g (19 * p + 3 * s + w + 310) x (19 * q + 309) = g (19 * q + 309) := fun q hq => by
    rcases Nat.lt_trichotomy q p with h9 | h9 | h9
    · exact if_neg (by omega)
    · exact if_neg (by omega)
    · exact if_neg (by omega)
  have e0 : upd1 g (19 * p + 3 * s + w + 310) x 308 = g 308 := if_neg (by omega)
  refine ⟨by rw [e0]; exact h1, fun q hq => ?_, by rw [e0]; exact h3, by rw [e p h3]; exact h4⟩
  rw [e0] at hq; rw [e q hq]; exact h2 q hq
theorem UK.add {g : F1} {p n : Nat} (hwi : WI g) (hp : (p : Int) < g 308) (hn6 : n < 6) : UK (addZ g (19 * p + 309) (19 * p + 3 * n + 310) 3 ((n : Int) + 1)) p n := by
  have h8 := hwi.2.1
  have e0 : addZ g (19 * p + 309) (19 * p + 3 * n + 310) 3 ((n : Int) + 1) 308 = g 308 := by unfold addZ; rw [if_neg (by omega), if_neg (by omega)]
  have e1 : addZ g (19 * p + 309) (19 * p + 3 * n + 310) 3 ((n : Int) + 1) (19 * p + 309) = (n : Int) + 1 := if_pos rfl
  refine ⟨by rw [e0]; exact h8, fun q hq => ?_, by rw [e0]; exact hp, by rw [e1]; omega⟩
  rw [e0] at hq
  have h6 := (hwi.2.2 q hq).2.1
  by_cases hqp : q = p
  · rw [hqp, e1]; omega
  · unfold addZ; rw [if_neg (by omega), if_neg (by omega)]; exact h6
theorem pb_moveUse (X : AX) (I J : Nat → Nat → Int) (cc ss : Nat) (p s : Nat) (x y : Int) {g : F1} {hs : Nat → F1} {m : Nat} (hH : Hist I J hs m) (hR : SetR I J 1 g) (hw : WF g) (hp : (p : Int) < g 308) (hs2 : (s : Int) < g (19 * p + 309)) (h1 : (-48 ≤ x ∧ x ≤ 48) ∧ (-48 ≤ y ∧ y ≤ 48)) : Ev X k_X8_moveUse (0, [some (vr 0), some (vi (p : Int)), some (vi (s : Int)), some (vi x), some (vi y)], []) (MS I J cc ss) (PV cc ss (some (vi (g (19 * p + 3 * s + 310)))) (fun I' J' => onlyC I I' J J' ∧ Hist I' J' (remH hs m g) (remM m) ∧ SetR I' J' 1 ((upd1 (upd1 g (19 * p + 3 * s + 1 + 310) x) (19 * p + 3 * s + 2 + 310) y)))) := by
  have hS : SRep I 1 g := hR.1
  have hP : PRep I J 5 g := hR.2.1
  have hI : IRep I J 9 g := hR.2.2
  have hws := hw.1
  have hwp := hw.2.1
  have hwi := hw.2.2
  have h8 := hwi.2.1
  have h6 : ∀ q : Nat, (q : Int) < g 308 → g (19 * q + 309) ≤ 6 := fun q hq => (hwi.2.2 q hq).2.1
  have h66 := h6 p hp
  have u1 : UK g p s := ⟨h8, h6, hp, hs2⟩
  refine ev_n (fr' := (9, [some (vr 0), some (vi (p : Int)), some (vi (s : Int)), some (vi x), some (vi y)], [vi (s : Int), vi (p : Int), vr 9])) (S' := MS I J cc ss) 5 rfl ?_
  refine ev_cv rfl rfl rfl ⟨Nat.le_of_ble_eq_true rfl, Nat.le_of_ble_eq_true rfl⟩ (sp_hasItem_9 X _ _ _ _ (p : Int) (s : Int) hI hwi) ?_
  show Ev X k_X8_moveUse (12, [some (vr 0), some (vi (p : Int)), some (vi (s : Int)), some (vi x), some (vi y)], [vi (if 0 ≤ (p : Int) ∧ (p : Int) < g 308 ∧ 0 ≤ (s : Int) ∧ (s : Int) < g (19 * (p : Int).toNat + 309) then 1 else 0)]) (MS I J cc ss) _
  refine ev_s1 _ (⟨by omega, by omega, by omega, by rw [Int.toNat_natCast]; omega⟩) ?_
  show Ev X k_X8_moveUse (12, [some (vr 0), some (vi (p : Int)), some (vi (s : Int)), some (vi x), some (vi y)], [vi 1]) (MS I J cc ss) _
  refine ev_cv rfl rfl rfl ⟨Nat.le_of_ble_eq_true rfl, Nat.le_of_ble_eq_true rfl⟩ (sp_reqI1 X _) ?_
  show Ev X k_X8_moveUse (15, [some (vr 0), some (vi (p : Int)), some (vi (s : Int)), some (vi x), some (vi y)], []) (MS I J cc ss) _
  refine ev_n (fr' := (18, [some (vr 0), some (vi (p : Int)), some (vi (s : Int)), some (vi x), some (vi y)], [vi y, vi x])) (S' := MS I J cc ss) 2 rfl ?_
  refine ev_cv rfl rfl rfl ⟨Nat.le_of_ble_eq_true rfl, Nat.le_of_ble_eq_true rfl⟩ (sp_isShift8 X _ _ _ _ x y) ?_
  show Ev X k_X8_moveUse (21, [some (vr 0), some (vi (p : Int)), some (vi (s : Int)), some (vi x), some (vi y)], [vi (if (-48 ≤ x ∧ x ≤ 48) ∧ (-48 ≤ y ∧ y ≤ 48) then 1 else 0)]) (MS I J cc ss) _
  refine ev_s1 _ (h1) ?_
  show Ev X k_X8_moveUse (21, [some (vr 0), some (vi (p : Int)), some (vi (s : Int)), some (vi x), some (vi y)], [vi 1]) (MS I J cc ss) _
  refine ev_cv rfl rfl rfl ⟨Nat.le_of_ble_eq_true rfl, Nat.le_of_ble_eq_true rfl⟩ (sp_reqA1 X _) ?_
  show Ev X k_X8_moveUse (24, [some (vr 0), some (vi (p : Int)), some (vi (s : Int)), some (vi x), some (vi y)], []) (MS I J cc ss) _
  refine ev_n (fr' := (32, [some (vr 0), some (vi (p : Int)), some (vi (s : Int)), some (vi x), some (vi y)], [vr 1, vr 13])) (S' := MS I J cc ss) 4 rfl ?_
  refine ev_cp rfl rfl rfl ⟨Nat.le_of_ble_eq_true rfl, Nat.le_of_ble_eq_true rfl⟩ (sp_rem X _ _ _ _ hH hR hw) (fun I1 J2 q3 => ?_)
  obtain ⟨hO, hH, hR⟩ := q3
  show Ev X k_X8_moveUse (35, [some (vr 0), some (vi (p : Int)), some (vi (s : Int)), some (vi x), some (vi y)], []) (MS I1 J2 cc ss) _
  have hS : SRep I1 1 g := hR.1
  have hP : PRep I1 J2 5 g := hR.2.1
  have hI : IRep I1 J2 9 g := hR.2.2
  refine ev_n (fr' := (46, [some (vr 0), some (vi (p : Int)), some (vi (s : Int)), some (vi x), some (vi y)], [vi x, vi 1, vi (s : Int), vi (p : Int), vr 9])) (S' := MS I1 J2 cc ss) 7 rfl ?_
  refine ev_cv rfl rfl rfl ⟨Nat.le_of_ble_eq_true rfl, Nat.le_of_ble_eq_true rfl⟩ (sp_putNumber_9 X _ _ _ _ p s 1 x hI u1.1 u1.2.1 u1.2.2.1 u1.2.2.2 (by omega)) ?_
  show Ev X k_X8_moveUse (49, [some (vr 0), some (vi (p : Int)), some (vi (s : Int)), some (vi x), some (vi y)], []) (MS (up2 I1 12 (18 * p + 3 * s + 1) x) J2 cc ss) _
  have hI := IRep.put (v := x) hI u1.2.2.1 u1.1 u1.2.1 u1.2.2.2 (show 1 < 3 by omega)
  have u2 := UK.upd (x := x) u1 (show 1 < 3 by omega)
  refine ev_n (fr' := (61, [some (vr 0), some (vi (p : Int)), some (vi (s : Int)), some (vi x), some (vi y)], [vi y, vi 2, vi (s : Int), vi (p : Int), vr 9])) (S' := MS (up2 I1 12 (18 * p + 3 * s + 1) x) J2 cc ss) 7 rfl ?_
  refine ev_cv rfl rfl rfl ⟨Nat.le_of_ble_eq_true rfl, Nat.le_of_ble_eq_true rfl⟩ (sp_putNumber_9 X _ _ _ _ p s 2 y hI u2.1 u2.2.1 u2.2.2.1 u2.2.2.2 (by omega)) ?_
  show Ev X k_X8_moveUse (64, [some (vr 0), some (vi (p : Int)), some (vi (s : Int)), some (vi x), some (vi y)], []) (MS (up2 (up2 I1 12 (18 * p + 3 * s + 1) x) 12 (18 * p + 3 * s + 2) y) J2 cc ss) _
  have hI := IRep.put (v := y) hI u2.2.2.1 u2.1 u2.2.1 u2.2.2.2 (show 2 < 3 by omega)
  have u3 := UK.upd (x := y) u2 (show 2 < 3 by omega)
  refine ev_n (fr' := (74, [some (vr 0), some (vi (p : Int)), some (vi (s : Int)), some (vi x), some (vi y)], [vi 0, vi (s : Int), vi (p : Int), vr 9])) (S' := MS (up2 (up2 I1 12 (18 * p + 3 * s + 1) x) 12 (18 * p + 3 * s + 2) y) J2 cc ss) 6 rfl ?_
  refine ev_cv rfl rfl rfl ⟨Nat.le_of_ble_eq_true rfl, Nat.le_of_ble_eq_true rfl⟩ (sp_number2_9 X _ _ _ _ p s 0 hI u3.1 u3.2.1 u3.2.2.1 u3.2.2.2 (by omega)) ?_
  show Ev X k_X8_moveUse (77, [some (vr 0), some (vi (p : Int)), some (vi (s : Int)), some (vi x), some (vi y)], [vi ((upd1 (upd1 g (19 * p + 3 * s + 1 + 310) x) (19 * p + 3 * s + 2 + 310) y) (19 * p + 3 * s + 0 + 310))]) (MS (up2 (up2 I1 12 (18 * p + 3 * s + 1) x) 12 (18 * p + 3 * s + 2) y) J2 cc ss) _
  refine ev_r rfl rfl rfl ?_
  exact ⟨_, _, rfl, congrArg (fun z => Sum.inl (some (vi z))) (by unfold upd1; rw [if_neg (by omega), if_neg (by omega)]), chgI hO hH hR hw (fun a h1 h2 => (up2_row _ _ _ _ h2).trans (up2_row _ _ _ _ h2)) hI (fun q hq => by unfold upd1; rw [if_neg (by omega), if_neg (by omega)])⟩
theorem pb_addUse_x (X : AX) (I J : Nat → Nat → Int) (cc ss : Nat) {g : F1} (u t x y : Int) (hS : SRep I 1 g) (hP : PRep I J 5 g) (hI : IRep I J 9 g) (hws : WS g) (hwp : WP g) (hwi : WI g) (h : ¬ (0 ≤ u ∧ u < g 308)) : Ev X k_X8_addUse (0, [some (vr 0), some (vi u), some (vi t), some (vi x), some (vi y), none], []) (MS I J cc ss) (fun o T => o = .inr 2 ∧ T = MS I J (cc + 1) (ss + 6)) := by
  refine ev_n (fr' := (8, [some (vr 0), some (vi u), some (vi t), some (vi x), some (vi y), none], [vi u, vr 9])) (S' := MS I J cc ss) 4 rfl ?_
  refine ev_cv rfl rfl rfl ⟨Nat.le_of_ble_eq_true rfl, Nat.le_of_ble_eq_true rfl⟩ (sp_hasRow_9 X _ _ _ _ u hI) ?_
  show Ev X k_X8_addUse (11, [some (vr 0), some (vi u), some (vi t), some (vi x), some (vi y), none], [vi (if 0 ≤ u ∧ u < g 308 then 1 else 0)]) (MS I J cc ss) _
  refine ev_beq _ rfl (by decide) (fun (g1 : ¬ (0 ≤ u ∧ u < g 308)) => ?_) (fun (g1 : 0 ≤ u ∧ u < g 308) => False.elim ((h) g1))
  show Ev X k_X8_addUse (32, [some (vr 0), some (vi u), some (vi t), some (vi x), some (vi y), none], []) (MS I J cc ss) _
  refine ev_n (fr' := (33, [some (vr 0), some (vi u), some (vi t), some (vi x), some (vi y), none], [vi 0])) (S' := MS I J cc ss) 1 rfl ?_
  refine ev_cx rfl rfl rfl ⟨Nat.le_of_ble_eq_true rfl, Nat.le_of_ble_eq_true rfl⟩ (sp_reqI0 X _ _ _ _) rfl ?_
  exact ⟨rfl, rfl⟩
theorem pb_addUse_y (X : AX) (I J : Nat → Nat → Int) (cc ss : Nat) {g : F1} (p : Nat) (t x y : Int) (hS : SRep I 1 g) (hP : PRep I J 5 g) (hI : IRep I J 9 g) (hws : WS g) (hwp : WP g) (hwi : WI g) (hp : (p : Int) < g 308) (h : ¬ (0 ≤ t ∧ t < g 11)) : Ev X k_X8_addUse (0, [some (vr 0), some (vi (p : Int)), some (vi t), some (vi x), some (vi y), none], []) (MS I J cc ss) (fun o T => o = .inr 2 ∧ T = MS I J (cc + 1) (ss + 6)) := by
  refine ev_n (fr' := (8, [some (vr 0), some (vi (p : Int)), some (vi t), some (vi x), some (vi y), none], [vi (p : Int), vr 9])) (S' := MS I J cc ss) 4 rfl ?_
  refine ev_cv rfl rfl rfl ⟨Nat.le_of_ble_eq_true rfl, Nat.le_of_ble_eq_true rfl⟩ (sp_hasRow_9 X _ _ _ _ (p : Int) hI) ?_
  show Ev X k_X8_addUse (11, [some (vr 0), some (vi (p : Int)), some (vi t), some (vi x), some (vi y), none], [vi (if 0 ≤ (p : Int) ∧ (p : Int) < g 308 then 1 else 0)]) (MS I J cc ss) _
  refine ev_beq _ rfl (by decide) (fun (g1 : ¬ (0 ≤ (p : Int) ∧ (p : Int) < g 308)) => False.elim (g1 (by omega))) (fun (g1 : 0 ≤ (p : Int) ∧ (p : Int) < g 308) => ?_)
  show Ev X k_X8_addUse (14, [some (vr 0), some (vi (p : Int)), some (vi t), some (vi x), some (vi y), none], []) (MS I J cc ss) _
  refine ev_n (fr' := (22, [some (vr 0), some (vi (p : Int)), some (vi t), some (vi x), some (vi y), none], [vi t, vr 5])) (S' := MS I J cc ss) 4 rfl ?_
  refine ev_cv rfl rfl rfl ⟨Nat.le_of_ble_eq_true rfl, Nat.le_of_ble_eq_true rfl⟩ (sp_hasRow_5 X _ _ _ _ t hP) ?_
  show Ev X k_X8_addUse (25, [some (vr 0), some (vi (p : Int)), some (vi t), some (vi x), some (vi y), none], [vi (if 0 ≤ t ∧ t < g 11 then 1 else 0)]) (MS I J cc ss) _
  refine ev_beq _ rfl (by decide) (fun (g2 : ¬ (0 ≤ t ∧ t < g 11)) => ?_) (fun (g2 : 0 ≤ t ∧ t < g 11) => False.elim ((h) g2))
  show Ev X k_X8_addUse (32, [some (vr 0), some (vi (p : Int)), some (vi t), some (vi x), some (vi y), none], []) (MS I J cc ss) _
  refine ev_n (fr' := (33, [some (vr 0), some (vi (p : Int)), some (vi t), some (vi x), some (vi y), none], [vi 0])) (S' := MS I J cc ss) 1 rfl ?_
  refine ev_cx rfl rfl rfl ⟨Nat.le_of_ble_eq_true rfl, Nat.le_of_ble_eq_true rfl⟩ (sp_reqI0 X _ _ _ _) rfl ?_
  exact ⟨rfl, rfl⟩
theorem pb_addUse_z (X : AX) (I J : Nat → Nat → Int) (cc ss : Nat) {g : F1} (p t : Nat) (x y : Int) (hS : SRep I 1 g) (hP : PRep I J 5 g) (hI : IRep I J 9 g) (hws : WS g) (hwp : WP g) (hwi : WI g) (hp : (p : Int) < g 308) (ht : (t : Int) < g 11) (h : ¬ ((-48 ≤ x ∧ x ≤ 48) ∧ (-48 ≤ y ∧ y ≤ 48))) : Ev X k_X8_addUse (0, [some (vr 0), some (vi (p : Int)), some (vi (t : Int)), some (vi x), some (vi y), none], []) (MS I J cc ss) (fun o T => o = .inr 1 ∧ T = MS I J (cc + 1) (ss + 6)) := by
  refine ev_n (fr' := (8, [some (vr 0), some (vi (p : Int)), some (vi (t : Int)), some (vi x), some (vi y), none], [vi (p : Int), vr 9])) (S' := MS I J cc ss) 4 rfl ?_
  refine ev_cv rfl rfl rfl ⟨Nat.le_of_ble_eq_true rfl, Nat.le_of_ble_eq_true rfl⟩ (sp_hasRow_9 X _ _ _ _ (p : Int) hI) ?_
  show Ev X k_X8_addUse (11, [some (vr 0), some (vi (p : Int)), some (vi (t : Int)), some (vi x), some (vi y), none], [vi (if 0 ≤ (p : Int) ∧ (p : Int) < g 308 then 1 else 0)]) (MS I J cc ss) _
  refine ev_beq _ rfl (by decide) (fun (g1 : ¬ (0 ≤ (p : Int) ∧ (p : Int) < g 308)) => False.elim (g1 (by omega))) (fun (g1 : 0 ≤ (p : Int) ∧ (p : Int) < g 308) => ?_)
  show Ev X k_X8_addUse (14, [some (vr 0), some (vi (p : Int)), some (vi (t : Int)), some (vi x), some (vi y), none], []) (MS I J cc ss) _
  refine ev_n (fr' := (22, [some (vr 0), some (vi (p : Int)), some (vi (t : Int)), some (vi x), some (vi y), none], [vi (t : Int), vr 5])) (S' := MS I J cc ss) 4 rfl ?_
  refine ev_cv rfl rfl rfl ⟨Nat.le_of_ble_eq_true rfl, Nat.le_of_ble_eq_true rfl⟩ (sp_hasRow_5 X _ _ _ _ (t : Int) hP) ?_
  show Ev X k_X8_addUse (25, [some (vr 0), some (vi (p : Int)), some (vi (t : Int)), some (vi x), some (vi y), none], [vi (if 0 ≤ (t : Int) ∧ (t : Int) < g 11 then 1 else 0)]) (MS I J cc ss) _
  refine ev_beq _ rfl (by decide) (fun (g2 : ¬ (0 ≤ (t : Int) ∧ (t : Int) < g 11)) => False.elim (g2 (by omega))) (fun (g2 : 0 ≤ (t : Int) ∧ (t : Int) < g 11) => ?_)
  show Ev X k_X8_addUse (28, [some (vr 0), some (vi (p : Int)), some (vi (t : Int)), some (vi x), some (vi y), none], []) (MS I J cc ss) _
  refine ev_n (fr' := (33, [some (vr 0), some (vi (p : Int)), some (vi (t : Int)), some (vi x), some (vi y), none], [vi 1])) (S' := MS I J cc ss) 2 rfl ?_
  refine ev_cv rfl rfl rfl ⟨Nat.le_of_ble_eq_true rfl, Nat.le_of_ble_eq_true rfl⟩ (sp_reqI1 X _) ?_
  show Ev X k_X8_addUse (36, [some (vr 0), some (vi (p : Int)), some (vi (t : Int)), some (vi x), some (vi y), none], []) (MS I J cc ss) _
  refine ev_n (fr' := (39, [some (vr 0), some (vi (p : Int)), some (vi (t : Int)), some (vi x), some (vi y), none], [vi y, vi x])) (S' := MS I J cc ss) 2 rfl ?_
  refine ev_cv rfl rfl rfl ⟨Nat.le_of_ble_eq_true rfl, Nat.le_of_ble_eq_true rfl⟩ (sp_isShift8 X _ _ _ _ x y) ?_
  show Ev X k_X8_addUse (42, [some (vr 0), some (vi (p : Int)), some (vi (t : Int)), some (vi x), some (vi y), none], [vi (if (-48 ≤ x ∧ x ≤ 48) ∧ (-48 ≤ y ∧ y ≤ 48) then 1 else 0)]) (MS I J cc ss) _
  refine ev_s0 _ (h) ?_
  show Ev X k_X8_addUse (42, [some (vr 0), some (vi (p : Int)), some (vi (t : Int)), some (vi x), some (vi y), none], [vi 0]) (MS I J cc ss) _
  refine ev_cx rfl rfl rfl ⟨Nat.le_of_ble_eq_true rfl, Nat.le_of_ble_eq_true rfl⟩ (sp_reqA0 X _ _ _ _) rfl ?_
  exact ⟨rfl, rfl⟩
theorem pb_addUse_w (X : AX) (I J : Nat → Nat → Int) (cc ss : Nat) {g : F1} (p t : Nat) (x y : Int) (hS : SRep I 1 g) (hP : PRep I J 5 g) (hI : IRep I J 9 g) (hws : WS g) (hwp : WP g) (hwi : WI g) (hp : (p : Int) < g 308) (ht : (t : Int) < g 11) (h1 : (-48 ≤ x ∧ x ≤ 48) ∧ (-48 ≤ y ∧ y ≤ 48)) (h : 6 ≤ g (19 * p + 309)) : Ev X k_X8_addUse (0, [some (vr 0), some (vi (p : Int)), some (vi (t : Int)), some (vi x), some (vi y), none], []) (MS I J cc ss) (fun o T => o = .inr 0 ∧ T = MS I J (cc + 1) (ss + 6)) := by
  refine ev_n (fr' := (8, [some (vr 0), some (vi (p : Int)), some (vi (t : Int)), some (vi x), some (vi y), none], [vi (p : Int), vr 9])) (S' := MS I J cc ss) 4 rfl ?_
  refine ev_cv rfl rfl rfl ⟨Nat.le_of_ble_eq_true rfl, Nat.le_of_ble_eq_true rfl⟩ (sp_hasRow_9 X _ _ _ _ (p : Int) hI) ?_
  show Ev X k_X8_addUse (11, [some (vr 0), some (vi (p : Int)), some (vi (t : Int)), some (vi x), some (vi y), none], [vi (if 0 ≤ (p : Int) ∧ (p : Int) < g 308 then 1 else 0)]) (MS I J cc ss) _
  refine ev_beq _ rfl (by decide) (fun (g1 : ¬ (0 ≤ (p : Int) ∧ (p : Int) < g 308)) => False.elim (g1 (by omega))) (fun (g1 : 0 ≤ (p : Int) ∧ (p : Int) < g 308) => ?_)
  show Ev X k_X8_addUse (14, [some (vr 0), some (vi (p : Int)), some (vi (t : Int)), some (vi x), some (vi y), none], []) (MS I J cc ss) _
  refine ev_n (fr' := (22, [some (vr 0), some (vi (p : Int)), some (vi (t : Int)), some (vi x), some (vi y), none], [vi (t : Int), vr 5])) (S' := MS I J cc ss) 4 rfl ?_
  refine ev_cv rfl rfl rfl ⟨Nat.le_of_ble_eq_true rfl, Nat.le_of_ble_eq_true rfl⟩ (sp_hasRow_5 X _ _ _ _ (t : Int) hP) ?_
  show Ev X k_X8_addUse (25, [some (vr 0), some (vi (p : Int)), some (vi (t : Int)), some (vi x), some (vi y), none], [vi (if 0 ≤ (t : Int) ∧ (t : Int) < g 11 then 1 else 0)]) (MS I J cc ss) _
  refine ev_beq _ rfl (by decide) (fun (g2 : ¬ (0 ≤ (t : Int) ∧ (t : Int) < g 11)) => False.elim (g2 (by omega))) (fun (g2 : 0 ≤ (t : Int) ∧ (t : Int) < g 11) => ?_)
  show Ev X k_X8_addUse (28, [some (vr 0), some (vi (p : Int)), some (vi (t : Int)), some (vi x), some (vi y), none], []) (MS I J cc ss) _
  refine ev_n (fr' := (33, [some (vr 0), some (vi (p : Int)), some (vi (t : Int)), some (vi x), some (vi y), none], [vi 1])) (S' := MS I J cc ss) 2 rfl ?_
  refine ev_cv rfl rfl rfl ⟨Nat.le_of_ble_eq_true rfl, Nat.le_of_ble_eq_true rfl⟩ (sp_reqI1 X _) ?_
  show Ev X k_X8_addUse (36, [some (vr 0), some (vi (p : Int)), some (vi (t : Int)), some (vi x), some (vi y), none], []) (MS I J cc ss) _
  refine ev_n (fr' := (39, [some (vr 0), some (vi (p : Int)), some (vi (t : Int)), some (vi x), some (vi y), none], [vi y, vi x])) (S' := MS I J cc ss) 2 rfl ?_
  refine ev_cv rfl rfl rfl ⟨Nat.le_of_ble_eq_true rfl, Nat.le_of_ble_eq_true rfl⟩ (sp_isShift8 X _ _ _ _ x y) ?_
  show Ev X k_X8_addUse (42, [some (vr 0), some (vi (p : Int)), some (vi (t : Int)), some (vi x), some (vi y), none], [vi (if (-48 ≤ x ∧ x ≤ 48) ∧ (-48 ≤ y ∧ y ≤ 48) then 1 else 0)]) (MS I J cc ss) _
  refine ev_s1 _ (h1) ?_
  show Ev X k_X8_addUse (42, [some (vr 0), some (vi (p : Int)), some (vi (t : Int)), some (vi x), some (vi y), none], [vi 1]) (MS I J cc ss) _
  refine ev_cv rfl rfl rfl ⟨Nat.le_of_ble_eq_true rfl, Nat.le_of_ble_eq_true rfl⟩ (sp_reqA1 X _) ?_
  show Ev X k_X8_addUse (45, [some (vr 0), some (vi (p : Int)), some (vi (t : Int)), some (vi x), some (vi y), none], []) (MS I J cc ss) _
  refine ev_n (fr' := (53, [some (vr 0), some (vi (p : Int)), some (vi (t : Int)), some (vi x), some (vi y), none], [vi (p : Int), vr 9])) (S' := MS I J cc ss) 4 rfl ?_
  refine ev_cv rfl rfl rfl ⟨Nat.le_of_ble_eq_true rfl, Nat.le_of_ble_eq_true rfl⟩ (sp_isRowFull_9 X _ _ _ _ p hI hwi (by omega)) ?_
  show Ev X k_X8_addUse (56, [some (vr 0), some (vi (p : Int)), some (vi (t : Int)), some (vi x), some (vi y), none], [vi (if 6 ≤ g (19 * p + 309) then 1 else 0)]) (MS I J cc ss) _
  refine ev_bne _ rfl (by decide) (fun (g3 : 6 ≤ g (19 * p + 309)) => ?_) (fun (g3 : ¬ (6 ≤ g (19 * p + 309))) => False.elim (g3 (h)))
  show Ev X k_X8_addUse (63, [some (vr 0), some (vi (p : Int)), some (vi (t : Int)), some (vi x), some (vi y), none], []) (MS I J cc ss) _
  refine ev_n (fr' := (64, [some (vr 0), some (vi (p : Int)), some (vi (t : Int)), some (vi x), some (vi y), none], [vi 0])) (S' := MS I J cc ss) 1 rfl ?_
  refine ev_cx rfl rfl rfl ⟨Nat.le_of_ble_eq_true rfl, Nat.le_of_ble_eq_true rfl⟩ (sp_reqS0 X _ _ _ _) rfl ?_
  exact ⟨rfl, rfl⟩
theorem pb_addUse (X : AX) (I J : Nat → Nat → Int) (cc ss : Nat) (p t n : Nat) (x y : Int) {g : F1} {hs : Nat → F1} {m : Nat} (hH : Hist I J hs m) (hR : SetR I J 1 g) (hw : WF g) (hp : (p : Int) < g 308) (ht : (t : Int) < g 11) (h1 : (-48 ≤ x ∧ x ≤ 48) ∧ (-48 ≤ y ∧ y ≤ 48)) (hn : g (19 * p + 309) = (n : Int)) (hn6 : n < 6) : Ev X k_X8_addUse (0, [some (vr 0), some (vi (p : Int)), some (vi (t : Int)), some (vi x), some (vi y), none], []) (MS I J cc ss) (PV cc ss (some (vi ((n : Int)))) (fun I' J' => onlyC I I' J J' ∧ Hist I' J' (remH hs m g) (remM m) ∧ SetR I' J' 1 (upd1 (upd1 (upd1 (addZ g (19 * p + 309) (19 * p + 3 * n + 310) 3 ((n : Int) + 1)) (19 * p + 3 * n + 0 + 310) (t : Int)) (19 * p + 3 * n + 1 + 310) x) (19 * p + 3 * n + 2 + 310) y))) := by
  have hS : SRep I 1 g := hR.1
  have hP : PRep I J 5 g := hR.2.1
  have hI : IRep I J 9 g := hR.2.2
  have hws := hw.1
  have hwp := hw.2.1
  have hwi := hw.2.2
  have h8 := hwi.2.1
  have h6 : ∀ q : Nat, (q : Int) < g 308 → g (19 * q + 309) ≤ 6 := fun q hq => (hwi.2.2 q hq).2.1
  have h66 := h6 p hp
  refine ev_n (fr' := (8, [some (vr 0), some (vi (p : Int)), some (vi (t : Int)), some (vi x), some (vi y), none], [vi (p : Int), vr 9])) (S' := MS I J cc ss) 4 rfl ?_
  refine ev_cv rfl rfl rfl ⟨Nat.le_of_ble_eq_true rfl, Nat.le_of_ble_eq_true rfl⟩ (sp_hasRow_9 X _ _ _ _ (p : Int) hI) ?_
  show Ev X k_X8_addUse (11, [some (vr 0), some (vi (p : Int)), some (vi (t : Int)), some (vi x), some (vi y), none], [vi (if 0 ≤ (p : Int) ∧ (p : Int) < g 308 then 1 else 0)]) (MS I J cc ss) _
  refine ev_beq _ rfl (by decide) (fun (g1 : ¬ (0 ≤ (p : Int) ∧ (p : Int) < g 308)) => False.elim (g1 (by omega))) (fun (g1 : 0 ≤ (p : Int) ∧ (p : Int) < g 308) => ?_)
  show Ev X k_X8_addUse (14, [some (vr 0), some (vi (p : Int)), some (vi (t : Int)), some (vi x), some (vi y), none], []) (MS I J cc ss) _
  refine ev_n (fr' := (22, [some (vr 0), some (vi (p : Int)), some (vi (t : Int)), some (vi x), some (vi y), none], [vi (t : Int), vr 5])) (S' := MS I J cc ss) 4 rfl ?_
  refine ev_cv rfl rfl rfl ⟨Nat.le_of_ble_eq_true rfl, Nat.le_of_ble_eq_true rfl⟩ (sp_hasRow_5 X _ _ _ _ (t : Int) hP) ?_
  show Ev X k_X8_addUse (25, [some (vr 0), some (vi (p : Int)), some (vi (t : Int)), some (vi x), some (vi y), none], [vi (if 0 ≤ (t : Int) ∧ (t : Int) < g 11 then 1 else 0)]) (MS I J cc ss) _
  refine ev_beq _ rfl (by decide) (fun (g2 : ¬ (0 ≤ (t : Int) ∧ (t : Int) < g 11)) => False.elim (g2 (by omega))) (fun (g2 : 0 ≤ (t : Int) ∧ (t : Int) < g 11) => ?_)
  show Ev X k_X8_addUse (28, [some (vr 0), some (vi (p : Int)), some (vi (t : Int)), some (vi x), some (vi y), none], []) (MS I J cc ss) _
  refine ev_n (fr' := (33, [some (vr 0), some (vi (p : Int)), some (vi (t : Int)), some (vi x), some (vi y), none], [vi 1])) (S' := MS I J cc ss) 2 rfl ?_
  refine ev_cv rfl rfl rfl ⟨Nat.le_of_ble_eq_true rfl, Nat.le_of_ble_eq_true rfl⟩ (sp_reqI1 X _) ?_
  show Ev X k_X8_addUse (36, [some (vr 0), some (vi (p : Int)), some (vi (t : Int)), some (vi x), some (vi y), none], []) (MS I J cc ss) _
  refine ev_n (fr' := (39, [some (vr 0), some (vi (p : Int)), some (vi (t : Int)), some (vi x), some (vi y), none], [vi y, vi x])) (S' := MS I J cc ss) 2 rfl ?_
  refine ev_cv rfl rfl rfl ⟨Nat.le_of_ble_eq_true rfl, Nat.le_of_ble_eq_true rfl⟩ (sp_isShift8 X _ _ _ _ x y) ?_
  show Ev X k_X8_addUse (42, [some (vr 0), some (vi (p : Int)), some (vi (t : Int)), some (vi x), some (vi y), none], [vi (if (-48 ≤ x ∧ x ≤ 48) ∧ (-48 ≤ y ∧ y ≤ 48) then 1 else 0)]) (MS I J cc ss) _
  refine ev_s1 _ (h1) ?_
  show Ev X k_X8_addUse (42, [some (vr 0), some (vi (p : Int)), some (vi (t : Int)), some (vi x), some (vi y), none], [vi 1]) (MS I J cc ss) _
  refine ev_cv rfl rfl rfl ⟨Nat.le_of_ble_eq_true rfl, Nat.le_of_ble_eq_true rfl⟩ (sp_reqA1 X _) ?_
  show Ev X k_X8_addUse (45, [some (vr 0), some (vi (p : Int)), some (vi (t : Int)), some (vi x), some (vi y), none], []) (MS I J cc ss) _
  refine ev_n (fr' := (53, [some (vr 0), some (vi (p : Int)), some (vi (t : Int)), some (vi x), some (vi y), none], [vi (p : Int), vr 9])) (S' := MS I J cc ss) 4 rfl ?_
  refine ev_cv rfl rfl rfl ⟨Nat.le_of_ble_eq_true rfl, Nat.le_of_ble_eq_true rfl⟩ (sp_isRowFull_9 X _ _ _ _ p hI hwi (by omega)) ?_
  show Ev X k_X8_addUse (56, [some (vr 0), some (vi (p : Int)), some (vi (t : Int)), some (vi x), some (vi y), none], [vi (if 6 ≤ g (19 * p + 309) then 1 else 0)]) (MS I J cc ss) _
  refine ev_bne _ rfl (by decide) (fun (g3 : 6 ≤ g (19 * p + 309)) => False.elim ((show ¬ (6 ≤ g (19 * p + 309)) from by omega) g3)) (fun (g3 : ¬ (6 ≤ g (19 * p + 309))) => ?_)
  show Ev X k_X8_addUse (59, [some (vr 0), some (vi (p : Int)), some (vi (t : Int)), some (vi x), some (vi y), none], []) (MS I J cc ss) _
  refine ev_n (fr' := (64, [some (vr 0), some (vi (p : Int)), some (vi (t : Int)), some (vi x), some (vi y), none], [vi 1])) (S' := MS I J cc ss) 2 rfl ?_
  refine ev_cv rfl rfl rfl ⟨Nat.le_of_ble_eq_true rfl, Nat.le_of_ble_eq_true rfl⟩ (sp_reqS1 X _) ?_
  show Ev X k_X8_addUse (67, [some (vr 0), some (vi (p : Int)), some (vi (t : Int)), some (vi x), some (vi y), none], []) (MS I J cc ss) _
  refine ev_n (fr' := (75, [some (vr 0), some (vi (p : Int)), some (vi (t : Int)), some (vi x), some (vi y), none], [vr 1, vr 13])) (S' := MS I J cc ss) 4 rfl ?_
  refine ev_cp rfl rfl rfl ⟨Nat.le_of_ble_eq_true rfl, Nat.le_of_ble_eq_true rfl⟩ (sp_rem X _ _ _ _ hH hR hw) (fun I1 J2 q3 => ?_)
  obtain ⟨hO, hH, hR⟩ := q3
  show Ev X k_X8_addUse (78, [some (vr 0), some (vi (p : Int)), some (vi (t : Int)), some (vi x), some (vi y), none], []) (MS I1 J2 cc ss) _
  have hS : SRep I1 1 g := hR.1
  have hP : PRep I1 J2 5 g := hR.2.1
  have hI : IRep I1 J2 9 g := hR.2.2
  refine ev_n (fr' := (86, [some (vr 0), some (vi (p : Int)), some (vi (t : Int)), some (vi x), some (vi y), none], [vi (p : Int), vr 9])) (S' := MS I1 J2 cc ss) 4 rfl ?_
  refine ev_cp rfl rfl rfl ⟨Nat.le_of_ble_eq_true rfl, Nat.le_of_ble_eq_true rfl⟩ (sp_addItem_9 X _ _ _ _ p n hI h8 h6 hp hn hn6) (fun I4 J2 q5 => ?_)
  obtain ⟨rfl, r9, hI⟩ := q5
  show Ev X k_X8_addUse (89, [some (vr 0), some (vi (p : Int)), some (vi (t : Int)), some (vi x), some (vi y), none], [vi (n : Int)]) (MS I4 J2 cc ss) _
  have u1 := UK.add hwi hp hn6
  refine ev_n (fr' := (103, [some (vr 0), some (vi (p : Int)), some (vi (t : Int)), some (vi x), some (vi y), some (vi (n : Int))], [vi (t : Int), vi 0, vi (n : Int), vi (p : Int), vr 9])) (S' := MS I4 J2 cc ss) 8 rfl ?_
  refine ev_cv rfl rfl rfl ⟨Nat.le_of_ble_eq_true rfl, Nat.le_of_ble_eq_true rfl⟩ (sp_putNumber_9 X _ _ _ _ p n 0 (t : Int) hI u1.1 u1.2.1 u1.2.2.1 u1.2.2.2 (by omega)) ?_
  show Ev X k_X8_addUse (106, [some (vr 0), some (vi (p : Int)), some (vi (t : Int)), some (vi x), some (vi y), some (vi (n : Int))], []) (MS (up2 I4 12 (18 * p + 3 * n) (t : Int)) J2 cc ss) _
  have hI := IRep.put (v := (t : Int)) hI u1.2.2.1 u1.1 u1.2.1 u1.2.2.2 (show 0 < 3 by omega)
  have u2 := UK.upd (x := (t : Int)) u1 (show 0 < 3 by omega)
  refine ev_n (fr' := (118, [some (vr 0), some (vi (p : Int)), some (vi (t : Int)), some (vi x), some (vi y), some (vi (n : Int))], [vi x, vi 1, vi (n : Int), vi (p : Int), vr 9])) (S' := MS (up2 I4 12 (18 * p + 3 * n) (t : Int)) J2 cc ss) 7 rfl ?_
  refine ev_cv rfl rfl rfl ⟨Nat.le_of_ble_eq_true rfl, Nat.le_of_ble_eq_true rfl⟩ (sp_putNumber_9 X _ _ _ _ p n 1 x hI u2.1 u2.2.1 u2.2.2.1 u2.2.2.2 (by omega)) ?_
  show Ev X k_X8_addUse (121, [some (vr 0), some (vi (p : Int)), some (vi (t : Int)), some (vi x), some (vi y), some (vi (n : Int))], []) (MS (up2 (up2 I4 12 (18 * p + 3 * n) (t : Int)) 12 (18 * p + 3 * n + 1) x) J2 cc ss) _
  have hI := IRep.put (v := x) hI u2.2.2.1 u2.1 u2.2.1 u2.2.2.2 (show 1 < 3 by omega)
  have u3 := UK.upd (x := x) u2 (show 1 < 3 by omega)
  refine ev_n (fr' := (134, [some (vr 0), some (vi (p : Int)), some (vi (t : Int)), some (vi x), some (vi y), some (vi (n : Int))], [vi y, vi 2, vi (n : Int), vi (p : Int), vr 9])) (S' := MS (up2 (up2 I4 12 (18 * p + 3 * n) (t : Int)) 12 (18 * p + 3 * n + 1) x) J2 cc ss) 7 rfl ?_
  refine ev_cv rfl rfl rfl ⟨Nat.le_of_ble_eq_true rfl, Nat.le_of_ble_eq_true rfl⟩ (sp_putNumber_9 X _ _ _ _ p n 2 y hI u3.1 u3.2.1 u3.2.2.1 u3.2.2.2 (by omega)) ?_
  show Ev X k_X8_addUse (137, [some (vr 0), some (vi (p : Int)), some (vi (t : Int)), some (vi x), some (vi y), some (vi (n : Int))], []) (MS (up2 (up2 (up2 I4 12 (18 * p + 3 * n) (t : Int)) 12 (18 * p + 3 * n + 1) x) 12 (18 * p + 3 * n + 2) y) J2 cc ss) _
  have hI := IRep.put (v := y) hI u3.2.2.1 u3.1 u3.2.1 u3.2.2.2 (show 2 < 3 by omega)
  have u4 := UK.upd (x := y) u3 (show 2 < 3 by omega)
  refine ev_n (fr' := (139, [some (vr 0), some (vi (p : Int)), some (vi (t : Int)), some (vi x), some (vi y), some (vi (n : Int))], [vi (n : Int)])) (S' := MS (up2 (up2 (up2 I4 12 (18 * p + 3 * n) (t : Int)) 12 (18 * p + 3 * n + 1) x) 12 (18 * p + 3 * n + 2) y) J2 cc ss) 1 rfl ?_
  refine ev_r rfl rfl rfl ?_
  exact ⟨_, _, rfl, rfl, chgI hO hH hR hw (fun a h1 h2 => (up2_row _ _ _ _ h2).trans ((up2_row _ _ _ _ h2).trans ((up2_row _ _ _ _ h2).trans (r9 a h1 h2)))) hI (fun q hq => by unfold upd1 addZ; rw [if_neg (by omega), if_neg (by omega), if_neg (by omega), if_neg (by omega), if_neg (by omega)])⟩
theorem pb_addSize_x (X : AX) (I J : Nat → Nat → Int) (cc ss : Nat) {g : F1} (x : Int) (hS : SRep I 1 g) (hP : PRep I J 5 g) (hI : IRep I J 9 g) (hws : WS g) (hwp : WP g) (hwi : WI g) (h : ¬ (4 ≤ x ∧ x ≤ 32)) : Ev X k_X8_addSize (0, [some (vr 0), some (vi x)], []) (MS I J cc ss) (fun o T => o = .inr 1 ∧ T = MS I J (cc + 1) (ss + 6)) := by
  refine ev_n (fr' := (4, [some (vr 0), some (vi x)], [vi 32, vi 4, vi x])) (S' := MS I J cc ss) 3 rfl ?_
  refine ev_cv rfl rfl rfl ⟨Nat.le_of_ble_eq_true rfl, Nat.le_of_ble_eq_true rfl⟩ (sp_within X _ x 4 32 ) ?_
  show Ev X k_X8_addSize (7, [some (vr 0), some (vi x)], [vi (if 4 ≤ x ∧ x ≤ 32 then 1 else 0)]) (MS I J cc ss) _
  refine ev_s0 _ (h) ?_
  show Ev X k_X8_addSize (7, [some (vr 0), some (vi x)], [vi 0]) (MS I J cc ss) _
  refine ev_cx rfl rfl rfl ⟨Nat.le_of_ble_eq_true rfl, Nat.le_of_ble_eq_true rfl⟩ (sp_reqA0 X _ _ _ _) rfl ?_
  exact ⟨rfl, rfl⟩
theorem pb_addSize_y (X : AX) (I J : Nat → Nat → Int) (cc ss : Nat) {g : F1} (x : Int) (hS : SRep I 1 g) (hP : PRep I J 5 g) (hI : IRep I J 9 g) (hws : WS g) (hwp : WP g) (hwi : WI g) (h1 : 4 ≤ x ∧ x ≤ 32) (h : 5 ≤ g 0) : Ev X k_X8_addSize (0, [some (vr 0), some (vi x)], []) (MS I J cc ss) (fun o T => o = .inr 0 ∧ T = MS I J (cc + 1) (ss + 6)) := by
  refine ev_n (fr' := (4, [some (vr 0), some (vi x)], [vi 32, vi 4, vi x])) (S' := MS I J cc ss) 3 rfl ?_
  refine ev_cv rfl rfl rfl ⟨Nat.le_of_ble_eq_true rfl, Nat.le_of_ble_eq_true rfl⟩ (sp_within X _ x 4 32 ) ?_
  show Ev X k_X8_addSize (7, [some (vr 0), some (vi x)], [vi (if 4 ≤ x ∧ x ≤ 32 then 1 else 0)]) (MS I J cc ss) _
  refine ev_s1 _ (h1) ?_
  show Ev X k_X8_addSize (7, [some (vr 0), some (vi x)], [vi 1]) (MS I J cc ss) _
  refine ev_cv rfl rfl rfl ⟨Nat.le_of_ble_eq_true rfl, Nat.le_of_ble_eq_true rfl⟩ (sp_reqA1 X _) ?_
  show Ev X k_X8_addSize (10, [some (vr 0), some (vi x)], []) (MS I J cc ss) _
  refine ev_n (fr' := (17, [some (vr 0), some (vi x)], [vr 2])) (S' := MS I J cc ss) 3 rfl ?_
  refine ev_cv rfl rfl rfl ⟨Nat.le_of_ble_eq_true rfl, Nat.le_of_ble_eq_true rfl⟩ (sp_sIsFull_2 X _ _ _ _  hS) ?_
  show Ev X k_X8_addSize (20, [some (vr 0), some (vi x)], [vi (if 5 ≤ g 0 then 1 else 0)]) (MS I J cc ss) _
  refine ev_bne _ rfl (by decide) (fun (g1 : 5 ≤ g 0) => ?_) (fun (g1 : ¬ (5 ≤ g 0)) => False.elim (g1 (h)))
  show Ev X k_X8_addSize (42, [some (vr 0), some (vi x)], []) (MS I J cc ss) _
  refine ev_n (fr' := (43, [some (vr 0), some (vi x)], [vi 0])) (S' := MS I J cc ss) 1 rfl ?_
  refine ev_cx rfl rfl rfl ⟨Nat.le_of_ble_eq_true rfl, Nat.le_of_ble_eq_true rfl⟩ (sp_reqS0 X _ _ _ _) rfl ?_
  exact ⟨rfl, rfl⟩
theorem pb_addSize_z (X : AX) (I J : Nat → Nat → Int) (cc ss : Nat) {g : F1} (x : Int) (hS : SRep I 1 g) (hP : PRep I J 5 g) (hI : IRep I J 9 g) (hws : WS g) (hwp : WP g) (hwi : WI g) (h1 : 4 ≤ x ∧ x ≤ 32) (h2 : ¬ 5 ≤ g 0) (h : fnd (fun r => g (2 * r + 1)) x (g 0).toNat 0 ≠ -1) : Ev X k_X8_addSize (0, [some (vr 0), some (vi x)], []) (MS I J cc ss) (fun o T => o = .inr 0 ∧ T = MS I J (cc + 1) (ss + 6)) := by
  refine ev_n (fr' := (4, [some (vr 0), some (vi x)], [vi 32, vi 4, vi x])) (S' := MS I J cc ss) 3 rfl ?_
  refine ev_cv rfl rfl rfl ⟨Nat.le_of_ble_eq_true rfl, Nat.le_of_ble_eq_true rfl⟩ (sp_within X _ x 4 32 ) ?_
  show Ev X k_X8_addSize (7, [some (vr 0), some (vi x)], [vi (if 4 ≤ x ∧ x ≤ 32 then 1 else 0)]) (MS I J cc ss) _
  refine ev_s1 _ (h1) ?_
  show Ev X k_X8_addSize (7, [some (vr 0), some (vi x)], [vi 1]) (MS I J cc ss) _
  refine ev_cv rfl rfl rfl ⟨Nat.le_of_ble_eq_true rfl, Nat.le_of_ble_eq_true rfl⟩ (sp_reqA1 X _) ?_
  show Ev X k_X8_addSize (10, [some (vr 0), some (vi x)], []) (MS I J cc ss) _
  refine ev_n (fr' := (17, [some (vr 0), some (vi x)], [vr 2])) (S' := MS I J cc ss) 3 rfl ?_
  refine ev_cv rfl rfl rfl ⟨Nat.le_of_ble_eq_true rfl, Nat.le_of_ble_eq_true rfl⟩ (sp_sIsFull_2 X _ _ _ _  hS) ?_
  show Ev X k_X8_addSize (20, [some (vr 0), some (vi x)], [vi (if 5 ≤ g 0 then 1 else 0)]) (MS I J cc ss) _
  refine ev_bne _ rfl (by decide) (fun (g1 : 5 ≤ g 0) => False.elim ((h2) g1)) (fun (g1 : ¬ (5 ≤ g 0)) => ?_)
  show Ev X k_X8_addSize (23, [some (vr 0), some (vi x)], []) (MS I J cc ss) _
  refine ev_n (fr' := (31, [some (vr 0), some (vi x)], [vi x, vr 2])) (S' := MS I J cc ss) 4 rfl ?_
  refine ev_cv rfl rfl rfl ⟨Nat.le_of_ble_eq_true rfl, Nat.le_of_ble_eq_true rfl⟩ (sp_find_2 X _ _ _ _ x hS hws) ?_
  show Ev X k_X8_addSize (34, [some (vr 0), some (vi x)], [vi (fnd (fun r => g (2 * r + 1)) x (g 0).toNat 0)]) (MS I J cc ss) _
  refine ev_n (fr' := (35, [some (vr 0), some (vi x)], [vi (-1), vi (fnd (fun r => g (2 * r + 1)) x (g 0).toNat 0)])) (S' := MS I J cc ss) 1 rfl ?_
  refine ev_ic (c := .ne) (off := 7) rfl (by decide) (fun (g2 : (fnd (fun r => g (2 * r + 1)) x (g 0).toNat 0) ≠ -1) => ?_) (fun (g2 : ¬ ((fnd (fun r => g (2 * r + 1)) x (g 0).toNat 0) ≠ -1)) => False.elim (by omega))
  show Ev X k_X8_addSize (42, [some (vr 0), some (vi x)], []) (MS I J cc ss) _
  refine ev_n (fr' := (43, [some (vr 0), some (vi x)], [vi 0])) (S' := MS I J cc ss) 1 rfl ?_
  refine ev_cx rfl rfl rfl ⟨Nat.le_of_ble_eq_true rfl, Nat.le_of_ble_eq_true rfl⟩ (sp_reqS0 X _ _ _ _) rfl ?_
  exact ⟨rfl, rfl⟩
theorem pb_addSize (X : AX) (I J : Nat → Nat → Int) (cc ss : Nat) (x : Int) (n : Nat) {g : F1} {hs : Nat → F1} {m : Nat} (hH : Hist I J hs m) (hR : SetR I J 1 g) (hw : WF g) (h1 : 4 ≤ x ∧ x ≤ 32) (hn : g 0 = (n : Int)) (hn5 : n < 5) (h : fnd (fun r => g (2 * r + 1)) x (g 0).toNat 0 = -1) : Ev X k_X8_addSize (0, [some (vr 0), some (vi x)], []) (MS I J cc ss) (PZ cc ss (fun z I' J' => onlyC I I' J J' ∧ Hist I' J' (remH hs m g) (remM m) ∧ ∃ pl : Nat, z = (pl : Int) ∧ pl ≤ n ∧ (pl = 0 ∨ g (2 * (pl - 1) + 1) ≤ x) ∧ (∀ j, pl ≤ j → j < n → x < g (2 * j + 1)) ∧ SetR I' J' 1 (insF g pl n x 0))) := by
  have hS : SRep I 1 g := hR.1
  have hP : PRep I J 5 g := hR.2.1
  have hI : IRep I J 9 g := hR.2.2
  have hws := hw.1
  have hwp := hw.2.1
  have hwi := hw.2.2
  refine ev_n (fr' := (4, [some (vr 0), some (vi x)], [vi 32, vi 4, vi x])) (S' := MS I J cc ss) 3 rfl ?_
  refine ev_cv rfl rfl rfl ⟨Nat.le_of_ble_eq_true rfl, Nat.le_of_ble_eq_true rfl⟩ (sp_within X _ x 4 32 ) ?_
  show Ev X k_X8_addSize (7, [some (vr 0), some (vi x)], [vi (if 4 ≤ x ∧ x ≤ 32 then 1 else 0)]) (MS I J cc ss) _
  refine ev_s1 _ (h1) ?_
  show Ev X k_X8_addSize (7, [some (vr 0), some (vi x)], [vi 1]) (MS I J cc ss) _
  refine ev_cv rfl rfl rfl ⟨Nat.le_of_ble_eq_true rfl, Nat.le_of_ble_eq_true rfl⟩ (sp_reqA1 X _) ?_
  show Ev X k_X8_addSize (10, [some (vr 0), some (vi x)], []) (MS I J cc ss) _
  refine ev_n (fr' := (17, [some (vr 0), some (vi x)], [vr 2])) (S' := MS I J cc ss) 3 rfl ?_
  refine ev_cv rfl rfl rfl ⟨Nat.le_of_ble_eq_true rfl, Nat.le_of_ble_eq_true rfl⟩ (sp_sIsFull_2 X _ _ _ _  hS) ?_
  show Ev X k_X8_addSize (20, [some (vr 0), some (vi x)], [vi (if 5 ≤ g 0 then 1 else 0)]) (MS I J cc ss) _
  refine ev_bne _ rfl (by decide) (fun (g1 : 5 ≤ g 0) => False.elim ((show ¬ (5 ≤ g 0) from by omega) g1)) (fun (g1 : ¬ (5 ≤ g 0)) => ?_)
  show Ev X k_X8_addSize (23, [some (vr 0), some (vi x)], []) (MS I J cc ss) _
  refine ev_n (fr' := (31, [some (vr 0), some (vi x)], [vi x, vr 2])) (S' := MS I J cc ss) 4 rfl ?_
  refine ev_cv rfl rfl rfl ⟨Nat.le_of_ble_eq_true rfl, Nat.le_of_ble_eq_true rfl⟩ (sp_find_2 X _ _ _ _ x hS hws) ?_
  show Ev X k_X8_addSize (34, [some (vr 0), some (vi x)], [vi (fnd (fun r => g (2 * r + 1)) x (g 0).toNat 0)]) (MS I J cc ss) _
  refine ev_n (fr' := (35, [some (vr 0), some (vi x)], [vi (-1), vi (fnd (fun r => g (2 * r + 1)) x (g 0).toNat 0)])) (S' := MS I J cc ss) 1 rfl ?_
  refine ev_ic (c := .ne) (off := 7) rfl (by decide) (fun (g2 : (fnd (fun r => g (2 * r + 1)) x (g 0).toNat 0) ≠ -1) => False.elim (by omega)) (fun (g2 : ¬ ((fnd (fun r => g (2 * r + 1)) x (g 0).toNat 0) ≠ -1)) => ?_)
  show Ev X k_X8_addSize (38, [some (vr 0), some (vi x)], []) (MS I J cc ss) _
  refine ev_n (fr' := (43, [some (vr 0), some (vi x)], [vi 1])) (S' := MS I J cc ss) 2 rfl ?_
  refine ev_cv rfl rfl rfl ⟨Nat.le_of_ble_eq_true rfl, Nat.le_of_ble_eq_true rfl⟩ (sp_reqS1 X _) ?_
  show Ev X k_X8_addSize (46, [some (vr 0), some (vi x)], []) (MS I J cc ss) _
  refine ev_n (fr' := (54, [some (vr 0), some (vi x)], [vr 1, vr 13])) (S' := MS I J cc ss) 4 rfl ?_
  refine ev_cp rfl rfl rfl ⟨Nat.le_of_ble_eq_true rfl, Nat.le_of_ble_eq_true rfl⟩ (sp_rem X _ _ _ _ hH hR hw) (fun I1 J2 q3 => ?_)
  obtain ⟨hO, hH, hR⟩ := q3
  show Ev X k_X8_addSize (57, [some (vr 0), some (vi x)], []) (MS I1 J2 cc ss) _
  have hS : SRep I1 1 g := hR.1
  have hP : PRep I1 J2 5 g := hR.2.1
  have hI : IRep I1 J2 9 g := hR.2.2
  refine ev_n (fr' := (65, [some (vr 0), some (vi x)], [vi x, vr 2])) (S' := MS I1 J2 cc ss) 4 rfl ?_
  refine ev_cz rfl rfl rfl ⟨Nat.le_of_ble_eq_true rfl, Nat.le_of_ble_eq_true rfl⟩ (sp_insert_1 X _ _ _ _ n x hS hn hn5) (fun z9 I4 J2 q5 => ?_)
  obtain ⟨rfl, r9, pl, hpl, hp1, hp2, hp3, hS9⟩ := q5
  show Ev X k_X8_addSize (68, [some (vr 0), some (vi x)], [vi z9]) (MS I4 J2 cc ss) _
  refine ev_r rfl rfl rfl ?_
  have hC := chgS hO hH hR hw r9 hS9 (fun q hq => by
    unfold insF; rw [if_neg (by omega), if_neg (by omega), if_neg (by omega), if_neg (by omega)])
  exact ⟨_, _, _, rfl, rfl, hC.1, hC.2.1, pl, hpl, hp1, hp2, hp3, hC.2.2⟩
