/-! PUBLIC CHANGES, class (printed by gen/g70.py) -/
theorem SRep.eqv {I I' : F2} {b : Nat} {g g' : F1} (h : SRep I b g) (hw : WS g) (e : ∀ k, k < 11 → g' k = g k) (c : ∀ a, b < a → a < b + 4 → I' a = I a) : SRep I' b g' := by
  have e0 := e 0 (by omega)
  refine ⟨by rw [c _ (by omega) (by omega), e0]; exact h.1, fun k hk => ?_⟩
  rw [e0] at hk
  have h5 := hw.2.1
  rw [c _ (by omega) (by omega), c _ (by omega) (by omega), e _ (by omega), e _ (by omega)]
  exact h.2 k hk
theorem PRep.eqv {I I' J J' : F2} {R : Nat} {g g' : F1} (h : PRep I J R g) (hw : WP g) (e : ∀ k, (11 ≤ k ∧ k < 308) ∨ (461 ≤ k ∧ k < 469) → g' k = g k) (c : ∀ a, R ≤ a → a < R + 4 → I' a = I a ∧ J' a = J a) : PRep I' J' R g' := by
  have h8 := hw.2.1
  have e1 := e 11 (by omega)
  refine ⟨by rw [(c R (by omega) (by omega)).1]; exact h.1, by rw [(c R (by omega) (by omega)).1, e1]; exact h.2.1, fun p hp => ?_⟩
  rw [e1] at hp
  have h6 := hw.2.2 p hp
  obtain ⟨a1, a2, a3⟩ := h.2.2 p hp
  have e2 := e (37 * p + 12) (by omega)
  refine ⟨by rw [(c (R + 1) (by omega) (by omega)).2, e _ (by omega)]; exact a1, by rw [(c (R + 2) (by omega) (by omega)).1, e2]; exact a2, fun s w hs hw2 => ?_⟩
  rw [e2] at hs
  rw [(c (R + 3) (by omega) (by omega)).1, e _ (by omega)]
  exact a3 s w hs hw2
theorem IRep.eqv {I I' J J' : F2} {R : Nat} {g g' : F1} (h : IRep I J R g) (hw : WI g) (e : ∀ k, (308 ≤ k ∧ k < 461) ∨ (469 ≤ k ∧ k < 477) → g' k = g k) (c : ∀ a, R ≤ a → a < R + 4 → I' a = I a ∧ J' a = J a) : IRep I' J' R g' := by
  have h8 := hw.2.1
  have e1 := e 308 (by omega)
  refine ⟨by rw [(c R (by omega) (by omega)).1]; exact h.1, by rw [(c R (by omega) (by omega)).1, e1]; exact h.2.1, fun p hp => ?_⟩
  rw [e1] at hp
  have h6 := hw.2.2 p hp
  obtain ⟨a1, a2, a3⟩ := h.2.2 p hp
  have e2 := e (19 * p + 309) (by omega)
  refine ⟨by rw [(c (R + 1) (by omega) (by omega)).2, e _ (by omega)]; exact a1, by rw [(c (R + 2) (by omega) (by omega)).1, e2]; exact a2, fun s w hs hw2 => ?_⟩
  rw [e2] at hs
  rw [(c (R + 3) (by omega) (by omega)).1, e _ (by omega)]
  exact a3 s w hs hw2
def onlyC (I I' J J' : F2) : Prop := ∀ c, c = 0 ∨ (114 ≤ c ∧ c < 126) ∨ 111 ≤ c → I' c = I c ∧ J' c = J c
theorem chgS {I I1 I3 J J1 : F2} {hs : Nat → F1} {m : Nat} {g g' : F1} (hO : onlyH I I1 J J1) (hH : Hist I1 J1 hs m) (hR : SetR I1 J1 1 g) (hw : WF g) (r : ∀ a, a ≠ 2 → a ≠ 3 → a ≠ 4 → I3 a = I1 a) (hS : SRep I3 1 g') (e : ∀ k, 11 ≤ k → g' k = g k) : onlyC I I3 J J1 ∧ Hist I3 J1 hs m ∧ SetR I3 J1 1 g' :=
  ⟨fun c hc => ⟨(r c (by omega) (by omega) (by omega)).trans (hO.1 c (by omega)), hO.2 c (by omega)⟩, hH.cell (fun c h1 h2 => ⟨r c (by omega) (by omega) (by omega), rfl⟩), hS,
    PRep.eqv hR.2.1 hw.2.1 (fun k hk => e k (by omega)) (fun a h1 h2 => ⟨r a (by omega) (by omega) (by omega), rfl⟩), IRep.eqv hR.2.2 hw.2.2 (fun k hk => e k (by omega)) (fun a h1 h2 => ⟨r a (by omega) (by omega) (by omega), rfl⟩)⟩
theorem chgP {I I1 I3 J J1 : F2} {hs : Nat → F1} {m : Nat} {g g' : F1} (hO : onlyH I I1 J J1) (hH : Hist I1 J1 hs m) (hR : SetR I1 J1 1 g) (hw : WF g) (r : ∀ a, a ≠ 7 → a ≠ 8 → I3 a = I1 a) (hP : PRep I3 J1 5 g') (e : ∀ k, k < 11 ∨ (308 ≤ k ∧ k < 461) ∨ 469 ≤ k → g' k = g k) : onlyC I I3 J J1 ∧ Hist I3 J1 hs m ∧ SetR I3 J1 1 g' :=
  ⟨fun c hc => ⟨(r c (by omega) (by omega)).trans (hO.1 c (by omega)), hO.2 c (by omega)⟩, hH.cell (fun c h1 h2 => ⟨r c (by omega) (by omega), rfl⟩),
    SRep.eqv hR.1 hw.1 (fun k hk => e k (by omega)) (fun a h1 h2 => r a (by omega) (by omega)), hP, IRep.eqv hR.2.2 hw.2.2 (fun k hk => e k (by omega)) (fun a h1 h2 => ⟨r a (by omega) (by omega), rfl⟩)⟩
theorem chgI {I I1 I3 J J1 : F2} {hs : Nat → F1} {m : Nat} {g g' : F1} (hO : onlyH I I1 J J1) (hH : Hist I1 J1 hs m) (hR : SetR I1 J1 1 g) (hw : WF g) (r : ∀ a, a ≠ 11 → a ≠ 12 → I3 a = I1 a) (hI : IRep I3 J1 9 g') (e : ∀ k, k < 308 ∨ (461 ≤ k ∧ k < 469) → g' k = g k) : onlyC I I3 J J1 ∧ Hist I3 J1 hs m ∧ SetR I3 J1 1 g' :=
  ⟨fun c hc => ⟨(r c (by omega) (by omega)).trans (hO.1 c (by omega)), hO.2 c (by omega)⟩, hH.cell (fun c h1 h2 => ⟨r c (by omega) (by omega), rfl⟩),
    SRep.eqv hR.1 hw.1 (fun k hk => e k (by omega)) (fun a h1 h2 => r a (by omega) (by omega)), PRep.eqv hR.2.1 hw.2.1 (fun k hk => e k (by omega)) (fun a h1 h2 => ⟨r a (by omega) (by omega), rfl⟩), hI⟩
theorem pb_removeSize_x (X : AX) (I J : Nat → Nat → Int) (cc ss : Nat) {g : F1} (y : Int) (hS : SRep I 1 g) (hP : PRep I J 5 g) (hI : IRep I J 9 g) (hws : WS g) (hwp : WP g) (hwi : WI g) (h : ¬ (0 ≤ y ∧ y < g 0)) : Ev X k_X8_removeSize (0, [some (vr 0), some (vi y)], []) (MS I J cc ss) (fun o T => o = .inr 2 ∧ T = MS I J (cc + 1) (ss + 6)) := by
  refine ev_n (fr' := (8, [some (vr 0), some (vi y)], [vi y, vr 2])) (S' := MS I J cc ss) 4 rfl ?_
  refine ev_cv rfl rfl rfl ⟨Nat.le_of_ble_eq_true rfl, Nat.le_of_ble_eq_true rfl⟩ (sp_has_2 X _ _ _ _ y hS) ?_
  show Ev X k_X8_removeSize (11, [some (vr 0), some (vi y)], [vi (if 0 ≤ y ∧ y < g 0 then 1 else 0)]) (MS I J cc ss) _
  refine ev_s0 _ (h) ?_
  show Ev X k_X8_removeSize (11, [some (vr 0), some (vi y)], [vi 0]) (MS I J cc ss) _
  refine ev_cx rfl rfl rfl ⟨Nat.le_of_ble_eq_true rfl, Nat.le_of_ble_eq_true rfl⟩ (sp_reqI0 X _ _ _ _) rfl ?_
  exact ⟨rfl, rfl⟩
theorem pb_removeSize (X : AX) (I J : Nat → Nat → Int) (cc ss : Nat) (s n : Nat) {g : F1} {hs : Nat → F1} {m : Nat} (hH : Hist I J hs m) (hR : SetR I J 1 g) (hw : WF g) (hn : g 0 = (n : Int)) (hsn : s < n) : Ev X k_X8_removeSize (0, [some (vr 0), some (vi (s : Int))], []) (MS I J cc ss) (PV cc ss (some (vi (((n - 1 : Nat) : Int)))) (fun I' J' => onlyC I I' J J' ∧ Hist I' J' (remH hs m g) (remM m) ∧ SetR I' J' 1 (remF g s n))) := by
  have hS : SRep I 1 g := hR.1
  have hP : PRep I J 5 g := hR.2.1
  have hI : IRep I J 9 g := hR.2.2
  have hws := hw.1
  have hwp := hw.2.1
  have hwi := hw.2.2
  have h5 := hws.2.1
  refine ev_n (fr' := (8, [some (vr 0), some (vi (s : Int))], [vi (s : Int), vr 2])) (S' := MS I J cc ss) 4 rfl ?_
  refine ev_cv rfl rfl rfl ⟨Nat.le_of_ble_eq_true rfl, Nat.le_of_ble_eq_true rfl⟩ (sp_has_2 X _ _ _ _ (s : Int) hS) ?_
  show Ev X k_X8_removeSize (11, [some (vr 0), some (vi (s : Int))], [vi (if 0 ≤ (s : Int) ∧ (s : Int) < g 0 then 1 else 0)]) (MS I J cc ss) _
  refine ev_s1 _ (by omega) ?_
  show Ev X k_X8_removeSize (11, [some (vr 0), some (vi (s : Int))], [vi 1]) (MS I J cc ss) _
  refine ev_cv rfl rfl rfl ⟨Nat.le_of_ble_eq_true rfl, Nat.le_of_ble_eq_true rfl⟩ (sp_reqI1 X _) ?_
  show Ev X k_X8_removeSize (14, [some (vr 0), some (vi (s : Int))], []) (MS I J cc ss) _
  refine ev_n (fr' := (22, [some (vr 0), some (vi (s : Int))], [vr 1, vr 13])) (S' := MS I J cc ss) 4 rfl ?_
  refine ev_cp rfl rfl rfl ⟨Nat.le_of_ble_eq_true rfl, Nat.le_of_ble_eq_true rfl⟩ (sp_rem X _ _ _ _ hH hR hw) (fun I1 J2 q3 => ?_)
  obtain ⟨hO, hH, hR⟩ := q3
  show Ev X k_X8_removeSize (25, [some (vr 0), some (vi (s : Int))], []) (MS I1 J2 cc ss) _
  have hS : SRep I1 1 g := hR.1
  have hP : PRep I1 J2 5 g := hR.2.1
  have hI : IRep I1 J2 9 g := hR.2.2
  refine ev_n (fr' := (33, [some (vr 0), some (vi (s : Int))], [vi (s : Int), vr 2])) (S' := MS I1 J2 cc ss) 4 rfl ?_
  refine ev_cp rfl rfl rfl ⟨Nat.le_of_ble_eq_true rfl, Nat.le_of_ble_eq_true rfl⟩ (sp_sdrop X _ _ _ _ s n hS hn (by omega) (by omega)) (fun I4 J2 q5 => ?_)
  obtain ⟨rfl, r9, hS9⟩ := q5
  show Ev X k_X8_removeSize (36, [some (vr 0), some (vi (s : Int))], []) (MS I4 J2 cc ss) _
  have hC := chgS hO hH hR hw r9 hS9 (fun k hk => by unfold remF; rw [if_neg (by omega), if_neg (by omega)])
  refine ev_n (fr' := (43, [some (vr 0), some (vi (s : Int))], [vr 2])) (S' := MS I4 J2 cc ss) 3 rfl ?_
  refine ev_cv rfl rfl rfl ⟨Nat.le_of_ble_eq_true rfl, Nat.le_of_ble_eq_true rfl⟩ (sp_sizeCount_2 X _ _ _ _ hS9) ?_
  show Ev X k_X8_removeSize (46, [some (vr 0), some (vi (s : Int))], [vi (remF g s n 0)]) (MS I4 J2 cc ss) _
  refine ev_r rfl rfl rfl ?_
  exact ⟨_, _, rfl, rfl, hC⟩
