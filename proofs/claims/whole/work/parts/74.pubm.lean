/-! PUBLIC CHANGES, class, copies (printed by gen/g74.py) -/
theorem addP {g : F1} (hwp : WP g) {p n s : Nat} (hp : (p : Int) < g 11) (hn : g (37 * p + 12) = (n : Int)) (hn6 : n < 6) (hs : s < n) : (addZ g (37 * p + 12) (37 * p + 6 * n + 13) 6 ((n : Int) + 1)) 11 ≤ 8 ∧ (∀ q : Nat, (q : Int) < (addZ g (37 * p + 12) (37 * p + 6 * n + 13) 6 ((n : Int) + 1)) 11 → (addZ g (37 * p + 12) (37 * p + 6 * n + 13) 6 ((n : Int) + 1)) (37 * q + 12) ≤ 6) ∧ (p : Int) < (addZ g (37 * p + 12) (37 * p + 6 * n + 13) 6 ((n : Int) + 1)) 11 ∧ (addZ g (37 * p + 12) (37 * p + 6 * n + 13) 6 ((n : Int) + 1)) (37 * p + 12) = (n : Int) + 1 ∧ ∀ j : Nat, j < 6 → (addZ g (37 * p + 12) (37 * p + 6 * n + 13) 6 ((n : Int) + 1)) (37 * p + 6 * s + j + 13) = g (37 * p + 6 * s + j + 13) := by
  have h8 := hwp.2.1
  have e0 : (addZ g (37 * p + 12) (37 * p + 6 * n + 13) 6 ((n : Int) + 1)) 11 = g 11 := by unfold addZ; rw [if_neg (by omega), if_neg (by omega)]
  have e1 : (addZ g (37 * p + 12) (37 * p + 6 * n + 13) 6 ((n : Int) + 1)) (37 * p + 12) = (n : Int) + 1 := if_pos rfl
  refine ⟨by rw [e0]; exact h8, fun q hq => ?_, by rw [e0]; exact hp, e1, fun j hj => by unfold addZ; rw [if_neg (by omega), if_neg (by omega)]⟩
  rw [e0] at hq
  have h6 := (hwp.2.2 q hq).2.1
  rcases Nat.lt_trichotomy q p with h9 | h9 | h9
  · unfold addZ; rw [if_neg (by omega), if_neg (by omega)]; exact h6
  · rw [h9, e1]; omega
  · unfold addZ; rw [if_neg (by omega), if_neg (by omega)]; exact h6
theorem pb_copyShape (X : AX) (I J : Nat → Nat → Int) (cc ss : Nat) (p s n : Nat) (x y : Int) {g : F1} {hs : Nat → F1} {m : Nat} (hH : Hist I J hs m) (hR : SetR I J 1 g) (hw : WF g) (hp : (p : Int) < g 11) (hn : g (37 * p + 12) = (n : Int)) (hsn : s < n) (hn6 : n < 6) (h1 : (-48 ≤ x ∧ x ≤ 48) ∧ (-48 ≤ y ∧ y ≤ 48)) (hc : canP g p s x y) : Ev X k_X8_copyShape (0, [some (vr 0), some (vi (p : Int)), some (vi (s : Int)), some (vi x), some (vi y), none], []) (MS I J cc ss) (PV cc ss (some (vi ((n : Int)))) (fun I' J' => onlyC I I' J J' ∧ Hist I' J' (remH hs m g) (remM m) ∧ SetR I' J' 1 (wrS (addZ g (37 * p + 12) (37 * p + 6 * n + 13) 6 ((n : Int) + 1)) (37 * p + 6 * n + 13) 6 (fun j => (addZ g (37 * p + 12) (37 * p + 6 * n + 13) 6 ((n : Int) + 1)) (37 * p + 6 * s + j + 13) + goF ((addZ g (37 * p + 12) (37 * p + 6 * n + 13) 6 ((n : Int) + 1)) (37 * p + 6 * s + 13)) (j : Int) x y)))) := by
  have hS : SRep I 1 g := hR.1
  have hP : PRep I J 5 g := hR.2.1
  have hI : IRep I J 9 g := hR.2.2
  have hws := hw.1
  have hwp := hw.2.1
  have hwi := hw.2.2
  have h8 := hwp.2.1
  have h6 : ∀ q : Nat, (q : Int) < g 11 → g (37 * q + 12) ≤ 6 := fun q hq => (hwp.2.2 q hq).2.1
  have h66 := h6 p hp
  have hs2 : (s : Int) < g (37 * p + 12) := by omega
  refine ev_n (fr' := (9, [some (vr 0), some (vi (p : Int)), some (vi (s : Int)), some (vi x), some (vi y), none], [vi (s : Int), vi (p : Int), vr 5])) (S' := MS I J cc ss) 5 rfl ?_
  refine ev_cv rfl rfl rfl ⟨Nat.le_of_ble_eq_true rfl, Nat.le_of_ble_eq_true rfl⟩ (sp_hasItem_5 X _ _ _ _ (p : Int) (s : Int) hP hwp) ?_
  show Ev X k_X8_copyShape (12, [some (vr 0), some (vi (p : Int)), some (vi (s : Int)), some (vi x), some (vi y), none], [vi (if 0 ≤ (p : Int) ∧ (p : Int) < g 11 ∧ 0 ≤ (s : Int) ∧ (s : Int) < g (37 * (p : Int).toNat + 12) then 1 else 0)]) (MS I J cc ss) _
  refine ev_s1 _ (⟨by omega, by omega, by omega, by rw [Int.toNat_natCast]; omega⟩) ?_
  show Ev X k_X8_copyShape (12, [some (vr 0), some (vi (p : Int)), some (vi (s : Int)), some (vi x), some (vi y), none], [vi 1]) (MS I J cc ss) _
  refine ev_cv rfl rfl rfl ⟨Nat.le_of_ble_eq_true rfl, Nat.le_of_ble_eq_true rfl⟩ (sp_reqI1 X _) ?_
  show Ev X k_X8_copyShape (15, [some (vr 0), some (vi (p : Int)), some (vi (s : Int)), some (vi x), some (vi y), none], []) (MS I J cc ss) _
  refine ev_n (fr' := (18, [some (vr 0), some (vi (p : Int)), some (vi (s : Int)), some (vi x), some (vi y), none], [vi y, vi x])) (S' := MS I J cc ss) 2 rfl ?_
  refine ev_cv rfl rfl rfl ⟨Nat.le_of_ble_eq_true rfl, Nat.le_of_ble_eq_true rfl⟩ (sp_isShift8 X _ _ _ _ x y) ?_
  show Ev X k_X8_copyShape (21, [some (vr 0), some (vi (p : Int)), some (vi (s : Int)), some (vi x), some (vi y), none], [vi (if (-48 ≤ x ∧ x ≤ 48) ∧ (-48 ≤ y ∧ y ≤ 48) then 1 else 0)]) (MS I J cc ss) _
  refine ev_beq _ rfl (by decide) (fun (g1 : ¬ ((-48 ≤ x ∧ x ≤ 48) ∧ (-48 ≤ y ∧ y ≤ 48))) => False.elim (g1 (h1))) (fun (g1 : (-48 ≤ x ∧ x ≤ 48) ∧ (-48 ≤ y ∧ y ≤ 48)) => ?_)
  show Ev X k_X8_copyShape (24, [some (vr 0), some (vi (p : Int)), some (vi (s : Int)), some (vi x), some (vi y), none], []) (MS I J cc ss) _
  refine ev_n (fr' := (30, [some (vr 0), some (vi (p : Int)), some (vi (s : Int)), some (vi x), some (vi y), none], [vi y, vi x, vi (s : Int), vi (p : Int), vr 0])) (S' := MS I J cc ss) 5 rfl ?_
  refine ev_cv rfl rfl rfl ⟨Nat.le_of_ble_eq_true rfl, Nat.le_of_ble_eq_true rfl⟩ (sp_canShift X _ _ _ _ p s x y hP hwp hp hs2 (by omega) (by omega)) ?_
  show Ev X k_X8_copyShape (33, [some (vr 0), some (vi (p : Int)), some (vi (s : Int)), some (vi x), some (vi y), none], [vi (if canP g p s x y then 1 else 0)]) (MS I J cc ss) _
  refine ev_beq _ rfl (by decide) (fun (g2 : ¬ (canP g p s x y)) => False.elim (g2 (hc))) (fun (g2 : canP g p s x y) => ?_)
  show Ev X k_X8_copyShape (36, [some (vr 0), some (vi (p : Int)), some (vi (s : Int)), some (vi x), some (vi y), none], []) (MS I J cc ss) _
  refine ev_n (fr' := (41, [some (vr 0), some (vi (p : Int)), some (vi (s : Int)), some (vi x), some (vi y), none], [vi 1])) (S' := MS I J cc ss) 2 rfl ?_
  refine ev_cv rfl rfl rfl ⟨Nat.le_of_ble_eq_true rfl, Nat.le_of_ble_eq_true rfl⟩ (sp_reqA1 X _) ?_
  show Ev X k_X8_copyShape (44, [some (vr 0), some (vi (p : Int)), some (vi (s : Int)), some (vi x), some (vi y), none], []) (MS I J cc ss) _
  refine ev_n (fr' := (52, [some (vr 0), some (vi (p : Int)), some (vi (s : Int)), some (vi x), some (vi y), none], [vi (p : Int), vr 5])) (S' := MS I J cc ss) 4 rfl ?_
  refine ev_cv rfl rfl rfl ⟨Nat.le_of_ble_eq_true rfl, Nat.le_of_ble_eq_true rfl⟩ (sp_isRowFull_5 X _ _ _ _ p hP hwp (by omega)) ?_
  show Ev X k_X8_copyShape (55, [some (vr 0), some (vi (p : Int)), some (vi (s : Int)), some (vi x), some (vi y), none], [vi (if 6 ≤ g (37 * p + 12) then 1 else 0)]) (MS I J cc ss) _
  refine ev_bne _ rfl (by decide) (fun (g3 : 6 ≤ g (37 * p + 12)) => False.elim ((show ¬ (6 ≤ g (37 * p + 12)) from by omega) g3)) (fun (g3 : ¬ (6 ≤ g (37 * p + 12))) => ?_)
  show Ev X k_X8_copyShape (58, [some (vr 0), some (vi (p : Int)), some (vi (s : Int)), some (vi x), some (vi y), none], []) (MS I J cc ss) _
  refine ev_n (fr' := (63, [some (vr 0), some (vi (p : Int)), some (vi (s : Int)), some (vi x), some (vi y), none], [vi 1])) (S' := MS I J cc ss) 2 rfl ?_
  refine ev_cv rfl rfl rfl ⟨Nat.le_of_ble_eq_true rfl, Nat.le_of_ble_eq_true rfl⟩ (sp_reqS1 X _) ?_
  show Ev X k_X8_copyShape (66, [some (vr 0), some (vi (p : Int)), some (vi (s : Int)), some (vi x), some (vi y), none], []) (MS I J cc ss) _
  refine ev_n (fr' := (74, [some (vr 0), some (vi (p : Int)), some (vi (s : Int)), some (vi x), some (vi y), none], [vr 1, vr 13])) (S' := MS I J cc ss) 4 rfl ?_
  refine ev_cp rfl rfl rfl ⟨Nat.le_of_ble_eq_true rfl, Nat.le_of_ble_eq_true rfl⟩ (sp_rem X _ _ _ _ hH hR hw) (fun I1 J2 q3 => ?_)
  obtain ⟨hO, hH, hR⟩ := q3
  show Ev X k_X8_copyShape (77, [some (vr 0), some (vi (p : Int)), some (vi (s : Int)), some (vi x), some (vi y), none], []) (MS I1 J2 cc ss) _
  have hS : SRep I1 1 g := hR.1
  have hP : PRep I1 J2 5 g := hR.2.1
  have hI : IRep I1 J2 9 g := hR.2.2
  refine ev_n (fr' := (85, [some (vr 0), some (vi (p : Int)), some (vi (s : Int)), some (vi x), some (vi y), none], [vi (p : Int), vr 5])) (S' := MS I1 J2 cc ss) 4 rfl ?_
  refine ev_cp rfl rfl rfl ⟨Nat.le_of_ble_eq_true rfl, Nat.le_of_ble_eq_true rfl⟩ (sp_addItem_5 X _ _ _ _ p n hP h8 h6 hp hn hn6) (fun I4 J2 q5 => ?_)
  obtain ⟨rfl, r9, hP⟩ := q5
  show Ev X k_X8_copyShape (88, [some (vr 0), some (vi (p : Int)), some (vi (s : Int)), some (vi x), some (vi y), none], [vi (n : Int)]) (MS I4 J2 cc ss) _
  obtain ⟨a8, a6, ap, an, aj⟩ := addP hwp hp hn hn6 hsn
  have hrg := shp_rng hwp hp (s := s) (by omega)
  refine ev_n (fr' := (98, [some (vr 0), some (vi (p : Int)), some (vi (s : Int)), some (vi x), some (vi y), some (vi (n : Int))], [vi y, vi x, vi (n : Int), vi (s : Int), vi (p : Int), vr 0])) (S' := MS I4 J2 cc ss) 7 rfl ?_
  refine ev_cp rfl rfl rfl ⟨Nat.le_of_ble_eq_true rfl, Nat.le_of_ble_eq_true rfl⟩ (sp_putSh X _ _ _ _ p s n x y hP a8 a6 ap (by rw [an]; omega) (by rw [an]; omega) (fun j hj => by rw [aj j hj]; exact hrg j hj) h1.1 h1.2) (fun I6 J2 q7 => ?_)
  obtain ⟨rfl, r10, h9⟩ := q7
  show Ev X k_X8_copyShape (101, [some (vr 0), some (vi (p : Int)), some (vi (s : Int)), some (vi x), some (vi y), some (vi (n : Int))], []) (MS I6 J2 cc ss) _
  have hC := chgP hO hH hR hw (fun a h7 h8 => (r10 a h8).trans (r9 a h7 h8)) h9 (fun k hk => by unfold wrS addZ; rw [if_neg (by omega), if_neg (by omega), if_neg (by omega)])
  refine ev_n (fr' := (103, [some (vr 0), some (vi (p : Int)), some (vi (s : Int)), some (vi x), some (vi y), some (vi (n : Int))], [vi (n : Int)])) (S' := MS I6 J2 cc ss) 1 rfl ?_
  refine ev_r rfl rfl rfl ?_
  exact ⟨_, _, rfl, rfl, hC⟩
theorem pb_errorPosition (X : AX) (I J : Nat → Nat → Int) (cc ss : Nat) : Ev X k_X8_errorPosition (0, [some (vr 0)], []) (MS I J cc ss) (fun o T => o = .inl (some (vi (I 0 7))) ∧ T = MS I J cc ss) := by
  refine ev_n (fr' := (4, [some (vr 0)], [vi (I 0 7)])) (S' := MS I J cc ss) 2 rfl ?_
  refine ev_r rfl rfl rfl ?_
  exact ⟨rfl, rfl⟩
