/-! PUBLIC CHANGES, reference (printed by gen/g85.py) -/
def onlyN (I I' J J' : F2) : Prop := (∀ a, a ≠ 135 → I' a = I a) ∧ (∀ f, f ≠ 3 → f ≠ 4 → I' 135 f = I 135 f) ∧ I' 135 4 = 0 ∧ ∀ a, a ≠ 136 → a ≠ 138 → J' a = J a
def NewR (I I' J J' : F2) (hs : Nat → F1) (m : Nat) (g G : F1) : Prop := onlyN I I' J J' ∧ J' 136 = G ∧ MH J' (remH hs m g) (remM m) ∧ I' 135 3 = (remM m : Int)
theorem nEnd {I I1 J J1 J2 : F2} {hs : Nat → F1} {m : Nat} {g G : F1} (rK : onlyK (up2 I 135 4 0) I1 J J1) (hm : I1 135 3 = (remM m : Int)) (hH : MH J1 (remH hs m g) (remM m)) (h : ∀ a, a ≠ 136 → J2 a = J1 a) (hG : J2 136 = G) : NewR I I1 J J2 hs m g G := by
  refine ⟨⟨fun a ha => (rK.1 a ha).trans (up2_row _ _ _ _ ha), fun f h3 h4 => (rK.2.1 f h3).trans (up2_ne2 _ _ _ _ h4), (rK.2.1 4 (by decide)).trans (up2_same _ _ _ _), fun a h6 h8 => (h a h6).trans (rK.2.2 a h8)⟩, hG, fun q k hq hk => ?_, hm⟩
  rw [h 138 (by decide)]; exact hH q k hq hk
theorem up2_u1 {J : F2} {h : F1} {a k : Nat} {v : Int} (e : J a = h) : up2 J a k v a = upd1 h k v := by
  subst e; funext j; simp [up2, upd1]
theorem remF_eq {g : F1} {s n : Nat} : upd1 (shD g (2 * s + 1) (2 * (n - 1) + 1) 2) 0 ((n - 1 : Nat) : Int) = remF g s n := by
  funext k; unfold upd1 shD remF; rfl
theorem rb_setExtra (X : AX) (I J : Nat → Nat → Int) (cc ss : Nat) (k : Nat) (z : Int) {g : F1} (hg : J 136 = g) (hws : WS g) (hwp : WP g) (hwi : WI g) {hs : Nat → F1} {m : Nat} (hm : I 135 3 = (m : Int)) (hm8 : m ≤ 8) (hH : MH J hs m) (hk : (k : Int) < g 0) (h : -2 ≤ z ∧ z ≤ 2) : Ev X k_X9_setExtra (0, [some (vr 135), some (vi (k : Int)), some (vi z), none], []) (MS I J cc ss) (PV cc ss (some (vi (g (2 * k + 2)))) (fun I' J' => NewR I I' J J' hs m g (upd1 g (2 * k + 2) z))) := by
  have q0 := hws.1
  have q1 := hws.2.1
  have q2 := hwp.1
  have q3 := hwp.2.1
  have q4 := hwi.1
  have q5 := hwi.2.1
  have hr := hws.2.2.1 k hk
  refine ev_n (fr' := (3, [some (vr 135), some (vi (k : Int)), some (vi z), none], [vi (k : Int), vr 135, vr 135])) (S' := MS I J cc ss) 3 rfl ?_
  refine ev_cv rfl rfl rfl ⟨Nat.le_of_ble_eq_true rfl, Nat.le_of_ble_eq_true rfl⟩ (sp_isSize_r X _ _ _ _ (k : Int) hg hws) ?_
  show Ev X k_X9_setExtra (6, [some (vr 135), some (vi (k : Int)), some (vi z), none], [vi (if 0 ≤ (k : Int) ∧ (k : Int) ≤ g 0 - 1 then 1 else 0), vr 135]) (MS I J cc ss) _
  refine ev_bne _ rfl (by decide) (fun (g1 : 0 ≤ (k : Int) ∧ (k : Int) ≤ g 0 - 1) => ?_) (fun (g1 : ¬ (0 ≤ (k : Int) ∧ (k : Int) ≤ g 0 - 1)) => False.elim (g1 (by omega)))
  show Ev X k_X9_setExtra (13, [some (vr 135), some (vi (k : Int)), some (vi z), none], [vr 135]) (MS I J cc ss) _
  refine ev_n (fr' := (21, [some (vr 135), some (vi (k : Int)), some (vi z), none], [vl 2, vl (-2), vl z, vr 135])) (S' := MS I J cc ss) 4 rfl ?_
  refine ev_cv rfl rfl rfl ⟨Nat.le_of_ble_eq_true rfl, Nat.le_of_ble_eq_true rfl⟩ (sp_isIn X _ z (-2) 2 ) ?_
  show Ev X k_X9_setExtra (24, [some (vr 135), some (vi (k : Int)), some (vi z), none], [vi (if -2 ≤ z ∧ z ≤ 2 then 1 else 0), vr 135]) (MS I J cc ss) _
  refine ev_beq _ rfl (by decide) (fun (g2 : ¬ (-2 ≤ z ∧ z ≤ 2)) => False.elim (g2 (by omega))) (fun (g2 : -2 ≤ z ∧ z ≤ 2) => ?_)
  show Ev X k_X9_setExtra (27, [some (vr 135), some (vi (k : Int)), some (vi z), none], [vr 135]) (MS I J cc ss) _
  refine ev_n (fr' := (32, [some (vr 135), some (vi (k : Int)), some (vi z), none], [vi 0, vr 135])) (S' := MS I J cc ss) 2 rfl ?_
  refine ev_n (fr' := (35, [some (vr 135), some (vi (k : Int)), some (vi z), none], [])) (S' := MS (up2 I 135 4 0) J cc ss) 1 rfl ?_
  refine ev_n (fr' := (45, [some (vr 135), some (vi (k : Int)), some (vi z), none], [vr 135])) (S' := MS (up2 I 135 4 0) J cc ss) 4 rfl ?_
  refine ev_cp rfl rfl rfl ⟨Nat.le_of_ble_eq_true rfl, Nat.le_of_ble_eq_true rfl⟩ (sp_keeps X _ _ _ _ hg (m := m) ((up2_ne2 _ _ _ _ (by decide)).trans hm) hm8 hH) (fun I1 J2 q3 => ?_)
  obtain ⟨rK, hm9, hH9⟩ := q3
  show Ev X k_X9_setExtra (48, [some (vr 135), some (vi (k : Int)), some (vi z), none], []) (MS I1 J2 cc ss) _
  have hg := (rK.2.2 136 (by decide)).trans hg
  refine ev_n (fr' := (50, [some (vr 135), some (vi (k : Int)), some (vi z), none], [vi (k : Int), vr 135])) (S' := MS I1 J2 cc ss) 2 rfl ?_
  refine ev_cv rfl rfl rfl ⟨Nat.le_of_ble_eq_true rfl, Nat.le_of_ble_eq_true rfl⟩ (sp_extraOf_r X _ _ _ _ k hg hws (by omega)) ?_
  show Ev X k_X9_setExtra (53, [some (vr 135), some (vi (k : Int)), some (vi z), none], [vi (g (2 * k + 2))]) (MS I1 J2 cc ss) _
  refine ev_n (fr' := (61, [some (vr 135), some (vi (k : Int)), some (vi z), some (vi (g (2 * k + 2)))], [vi (k : Int), vi 2, vi 1, vr 136])) (S' := MS I1 J2 cc ss) 6 rfl ?_
  refine ev_mul (z := 2 * (k : Int)) rfl (by omega) (by omega) (by omega) ?_
  show Ev X k_X9_setExtra (62, [some (vr 135), some (vi (k : Int)), some (vi z), some (vi (g (2 * k + 2)))], [vi (2 * (k : Int)), vi 1, vr 136]) (MS I1 J2 cc ss) _
  refine ev_add (z := 2 * (k : Int) + 1) rfl (by omega) (by omega) (by omega) ?_
  show Ev X k_X9_setExtra (63, [some (vr 135), some (vi (k : Int)), some (vi z), some (vi (g (2 * k + 2)))], [vi (2 * (k : Int) + 1), vr 136]) (MS I1 J2 cc ss) _
  refine ev_n (fr' := (64, [some (vr 135), some (vi (k : Int)), some (vi z), some (vi (g (2 * k + 2)))], [vi 1, vi (2 * (k : Int) + 1), vr 136])) (S' := MS I1 J2 cc ss) 1 rfl ?_
  refine ev_add (z := 2 * (k : Int) + 2) rfl (by omega) (by omega) (by omega) ?_
  show Ev X k_X9_setExtra (65, [some (vr 135), some (vi (k : Int)), some (vi z), some (vi (g (2 * k + 2)))], [vi (2 * (k : Int) + 2), vr 136]) (MS I1 J2 cc ss) _
  refine ev_n (fr' := (67, [some (vr 135), some (vi (k : Int)), some (vi z), some (vi (g (2 * k + 2)))], [vl z, vi (2 * (k : Int) + 2), vr 136])) (S' := MS I1 J2 cc ss) 2 rfl ?_
  refine ev_lasN (j := 2 * k + 2) rfl rfl (by omega) (by omega) ?_
  show Ev X k_X9_setExtra (68, [some (vr 135), some (vi (k : Int)), some (vi z), some (vi (g (2 * k + 2)))], []) (MS I1 (up2 J2 136 (2 * k + 2) z) cc ss) _
  refine ev_n (fr' := (69, [some (vr 135), some (vi (k : Int)), some (vi z), some (vi (g (2 * k + 2)))], [vi (g (2 * k + 2))])) (S' := MS I1 (up2 J2 136 (2 * k + 2) z) cc ss) 1 rfl ?_
  refine ev_r rfl rfl rfl ?_
  exact ⟨_, _, rfl, rfl, nEnd rK hm9 hH9 (fun a ha => up2_row _ _ _ _ ha) (up2_u1 hg)⟩
theorem lp_rrs (X : AX) (I J : Nat → Nat → Int) (cc ss : Nat) (J0 : F2) {g : F1} (p s n : Nat) (hp8 : p < 8) (hs6 : s < n) (hn6 : n ≤ 6) (k : Nat) (hk : 2 * s + 1 ≤ k) (hk2 : k ≤ 2 * (n - 1) + 1) (hJ : ∀ a, a ≠ 136 → J a = J0 a) (hg : J 136 = shD g (2 * s + 1) k 2) : Ev X k_X9_removeSize (46, [some (vr 135), some (vi (s : Int)), some (vi ((n - 1 : Nat) : Int)), some (vi (k : Int))], []) (MS I J cc ss) (PV cc ss (some (vi ((n - 1 : Nat) : Int))) (fun I' J' => I' = I ∧ (∀ a, a ≠ 136 → J' a = J0 a) ∧ J' 136 = remF g s n)) := by
  refine ev_n (fr' := (50, [some (vr 135), some (vi (s : Int)), some (vi ((n - 1 : Nat) : Int)), some (vi (k : Int))], [vi ((n - 1 : Nat) : Int), vi 2, vi 1, vi (k : Int)])) (S' := MS I J cc ss) 4 rfl ?_
  refine ev_mul (z := 2 * ((n - 1 : Nat) : Int)) rfl (by omega) (by omega) (by omega) ?_
  show Ev X k_X9_removeSize (51, [some (vr 135), some (vi (s : Int)), some (vi ((n - 1 : Nat) : Int)), some (vi (k : Int))], [vi (2 * ((n - 1 : Nat) : Int)), vi 1, vi (k : Int)]) (MS I J cc ss) _
  refine ev_add (z := 2 * ((n - 1 : Nat) : Int) + 1) rfl (by omega) (by omega) (by omega) ?_
  show Ev X k_X9_removeSize (52, [some (vr 135), some (vi (s : Int)), some (vi ((n - 1 : Nat) : Int)), some (vi (k : Int))], [vi (2 * ((n - 1 : Nat) : Int) + 1), vi (k : Int)]) (MS I J cc ss) _
  refine ev_ic (c := .ge) (off := 23) rfl (by decide) (fun (g1 : 2 * ((n - 1 : Nat) : Int) + 1 ≤ (k : Int)) => ?_) (fun (g1 : ¬ (2 * ((n - 1 : Nat) : Int) + 1 ≤ (k : Int))) => ?_)
  · show Ev X k_X9_removeSize (75, [some (vr 135), some (vi (s : Int)), some (vi ((n - 1 : Nat) : Int)), some (vi (k : Int))], []) (MS I J cc ss) _
    refine ev_n (fr' := (82, [some (vr 135), some (vi (s : Int)), some (vi ((n - 1 : Nat) : Int)), some (vi (k : Int))], [vl ((n - 1 : Nat) : Int), vi 0, vr 136])) (S' := MS I J cc ss) 5 rfl ?_
    refine ev_lasN (j := 0) rfl rfl (by omega) (by omega) ?_
    show Ev X k_X9_removeSize (83, [some (vr 135), some (vi (s : Int)), some (vi ((n - 1 : Nat) : Int)), some (vi (k : Int))], []) (MS I (up2 J 136 0 ((n - 1 : Nat) : Int)) cc ss) _
    refine ev_n (fr' := (84, [some (vr 135), some (vi (s : Int)), some (vi ((n - 1 : Nat) : Int)), some (vi (k : Int))], [vi ((n - 1 : Nat) : Int)])) (S' := MS I (up2 J 136 0 ((n - 1 : Nat) : Int)) cc ss) 1 rfl ?_
    refine ev_r rfl rfl rfl ?_
    have ek : k = 2 * (n - 1) + 1 := by omega
    subst ek
    exact ⟨_, _, rfl, rfl, rfl, fun a ha => (up2_row _ _ _ _ ha).trans (hJ a ha), (up2_u1 hg).trans remF_eq⟩
  · show Ev X k_X9_removeSize (55, [some (vr 135), some (vi (s : Int)), some (vi ((n - 1 : Nat) : Int)), some (vi (k : Int))], []) (MS I J cc ss) _
    refine ev_n (fr' := (66, [some (vr 135), some (vi (s : Int)), some (vi ((n - 1 : Nat) : Int)), some (vi (k : Int))], [vi 2, vi (k : Int), vr 136, vi (k : Int), vr 136])) (S' := MS I J cc ss) 7 rfl ?_
    refine ev_add (z := (k : Int) + 2) rfl (by omega) (by omega) (by omega) ?_
    show Ev X k_X9_removeSize (67, [some (vr 135), some (vi (s : Int)), some (vi ((n - 1 : Nat) : Int)), some (vi (k : Int))], [vi ((k : Int) + 2), vr 136, vi (k : Int), vr 136]) (MS I J cc ss) _
    refine ev_laN (j := k + 2) (z := (shD g (2 * s + 1) k 2 (k + 2))) rfl rfl (by omega) (by omega) (congrFun hg _) ?_
    show Ev X k_X9_removeSize (68, [some (vr 135), some (vi (s : Int)), some (vi ((n - 1 : Nat) : Int)), some (vi (k : Int))], [vl (shD g (2 * s + 1) k 2 (k + 2)), vi (k : Int), vr 136]) (MS I J cc ss) _
    refine ev_lasN (j := k) rfl rfl (by omega) (by omega) ?_
    show Ev X k_X9_removeSize (69, [some (vr 135), some (vi (s : Int)), some (vi ((n - 1 : Nat) : Int)), some (vi (k : Int))], []) (MS I (up2 J 136 k (shD g (2 * s + 1) k 2 (k + 2))) cc ss) _
    refine ev_inc (z := (k : Int) + 1) rfl rfl (by omega) (by omega) (by omega) rfl ?_
    show Ev X k_X9_removeSize (72, [some (vr 135), some (vi (s : Int)), some (vi ((n - 1 : Nat) : Int)), some (vi ((k : Int) + 1))], []) (MS I (up2 J 136 k (shD g (2 * s + 1) k 2 (k + 2))) cc ss) _
    refine ev_n (fr' := (46, [some (vr 135), some (vi (s : Int)), some (vi ((n - 1 : Nat) : Int)), some (vi ((k : Int) + 1))], [])) (S' := MS I (up2 J 136 k (shD g (2 * s + 1) k 2 (k + 2))) cc ss) 1 rfl ?_
    exact lp_rrs X I _ cc ss J0 p s n hp8 hs6 hn6 (k + 1) (by omega) (by omega) (fun a ha => by rw [up2_row _ _ _ _ ha]; exact hJ a ha) ((up2_u1 hg).trans (shD_next g _ k 2 (by omega) (by decide)))
termination_by 2 * (n - 1) + 1 - k
decreasing_by all_goals omega
theorem rb_removeSize (X : AX) (I J : Nat → Nat → Int) (cc ss : Nat) (s n : Nat) {g : F1} (hg : J 136 = g) (hws : WS g) (hwp : WP g) (hwi : WI g) {hs : Nat → F1} {m : Nat} (hm : I 135 3 = (m : Int)) (hm8 : m ≤ 8) (hH : MH J hs m) (hn : g 0 = (n : Int)) (hsn : s < n) : Ev X k_X9_removeSize (0, [some (vr 135), some (vi (s : Int)), none, none], []) (MS I J cc ss) (PV cc ss (some (vi (((n - 1 : Nat) : Int)))) (fun I' J' => NewR I I' J J' hs m g (remF g s n))) := by
  have q0 := hws.1
  have q1 := hws.2.1
  have q2 := hwp.1
  have q3 := hwp.2.1
  have q4 := hwi.1
  have q5 := hwi.2.1
  refine ev_n (fr' := (3, [some (vr 135), some (vi (s : Int)), none, none], [vi (s : Int), vr 135, vr 135])) (S' := MS I J cc ss) 3 rfl ?_
  refine ev_cv rfl rfl rfl ⟨Nat.le_of_ble_eq_true rfl, Nat.le_of_ble_eq_true rfl⟩ (sp_isSize_r X _ _ _ _ (s : Int) hg hws) ?_
  show Ev X k_X9_removeSize (6, [some (vr 135), some (vi (s : Int)), none, none], [vi (if 0 ≤ (s : Int) ∧ (s : Int) ≤ g 0 - 1 then 1 else 0), vr 135]) (MS I J cc ss) _
  refine ev_beq _ rfl (by decide) (fun (g1 : ¬ (0 ≤ (s : Int) ∧ (s : Int) ≤ g 0 - 1)) => False.elim (g1 (by omega))) (fun (g1 : 0 ≤ (s : Int) ∧ (s : Int) ≤ g 0 - 1) => ?_)
  show Ev X k_X9_removeSize (9, [some (vr 135), some (vi (s : Int)), none, none], [vr 135]) (MS I J cc ss) _
  refine ev_n (fr' := (14, [some (vr 135), some (vi (s : Int)), none, none], [vi 0, vr 135])) (S' := MS I J cc ss) 2 rfl ?_
  refine ev_n (fr' := (17, [some (vr 135), some (vi (s : Int)), none, none], [])) (S' := MS (up2 I 135 4 0) J cc ss) 1 rfl ?_
  refine ev_n (fr' := (27, [some (vr 135), some (vi (s : Int)), none, none], [vr 135])) (S' := MS (up2 I 135 4 0) J cc ss) 4 rfl ?_
  refine ev_cp rfl rfl rfl ⟨Nat.le_of_ble_eq_true rfl, Nat.le_of_ble_eq_true rfl⟩ (sp_keeps X _ _ _ _ hg (m := m) ((up2_ne2 _ _ _ _ (by decide)).trans hm) hm8 hH) (fun I1 J2 q3 => ?_)
  obtain ⟨rK, hm9, hH9⟩ := q3
  show Ev X k_X9_removeSize (30, [some (vr 135), some (vi (s : Int)), none, none], []) (MS I1 J2 cc ss) _
  have hg := (rK.2.2 136 (by decide)).trans hg
  refine ev_n (fr' := (35, [some (vr 135), some (vi (s : Int)), none, none], [vi 0, vr 136])) (S' := MS I1 J2 cc ss) 3 rfl ?_
  refine ev_laN (j := 0) (z := (g 0)) rfl rfl (by omega) (by omega) (congrFun hg _) ?_
  show Ev X k_X9_removeSize (36, [some (vr 135), some (vi (s : Int)), none, none], [vl (g 0)]) (MS I1 J2 cc ss) _
  refine ev_l2i rfl (by omega) (by omega) ?_
  show Ev X k_X9_removeSize (37, [some (vr 135), some (vi (s : Int)), none, none], [vi (g 0)]) (MS I1 J2 cc ss) _
  refine ev_n (fr' := (38, [some (vr 135), some (vi (s : Int)), none, none], [vi 1, vi (g 0)])) (S' := MS I1 J2 cc ss) 1 rfl ?_
  refine ev_sub (z := (g 0) - 1) rfl (by omega) (by omega) (by omega) ?_
  show Ev X k_X9_removeSize (39, [some (vr 135), some (vi (s : Int)), none, none], [vi ((g 0) - 1)]) (MS I1 J2 cc ss) _
  refine ev_eqi (show (g 0) - 1 = ((n - 1 : Nat) : Int) from by omega) ?_
  show Ev X k_X9_removeSize (39, [some (vr 135), some (vi (s : Int)), none, none], [vi ((n - 1 : Nat) : Int)]) (MS I1 J2 cc ss) _
  refine ev_n (fr' := (43, [some (vr 135), some (vi (s : Int)), some (vi ((n - 1 : Nat) : Int)), none], [vi (s : Int), vi 2, vi 1])) (S' := MS I1 J2 cc ss) 4 rfl ?_
  refine ev_mul (z := 2 * (s : Int)) rfl (by omega) (by omega) (by omega) ?_
  show Ev X k_X9_removeSize (44, [some (vr 135), some (vi (s : Int)), some (vi ((n - 1 : Nat) : Int)), none], [vi (2 * (s : Int)), vi 1]) (MS I1 J2 cc ss) _
  refine ev_add (z := 2 * (s : Int) + 1) rfl (by omega) (by omega) (by omega) ?_
  show Ev X k_X9_removeSize (45, [some (vr 135), some (vi (s : Int)), some (vi ((n - 1 : Nat) : Int)), none], [vi (2 * (s : Int) + 1)]) (MS I1 J2 cc ss) _
  refine ev_n (fr' := (46, [some (vr 135), some (vi (s : Int)), some (vi ((n - 1 : Nat) : Int)), some (vi (2 * (s : Int) + 1))], [])) (S' := MS I1 J2 cc ss) 1 rfl ?_
  refine (lp_rrs X _ _ cc ss _ 0 s n (by omega) hsn (by omega) (2 * s + 1) (by omega) (by omega) (fun _ _ => rfl) (hg.trans (shD_0 _ _ _).symm)).mono ?_
  rintro o T ⟨I', J', rfl, rfl, rfl, h8, h9⟩
  exact ⟨_, _, rfl, rfl, nEnd rK hm9 hH9 h8 h9⟩
theorem lp_rrp (X : AX) (I J : Nat → Nat → Int) (cc ss : Nat) (J0 : F2) {g : F1} (p s n : Nat) (hp8 : p < 8) (hs6 : s < n) (hn6 : n ≤ 6) (k : Nat) (hk : 37 * p + 6 * s + 13 ≤ k) (hk2 : k ≤ 37 * p + 6 * (n - 1) + 13) (hJ : ∀ a, a ≠ 136 → J a = J0 a) (hg : J 136 = shD g (37 * p + 6 * s + 13) k 6) : Ev X k_X9_removeShape (59, [some (vr 135), some (vi (p : Int)), some (vi (s : Int)), some (vi ((n - 1 : Nat) : Int)), some (vi (k : Int))], []) (MS I J cc ss) (PV cc ss (some (vi ((n - 1 : Nat) : Int))) (fun I' J' => I' = I ∧ (∀ a, a ≠ 136 → J' a = J0 a) ∧ J' 136 = upd1 (shD g (37 * p + 6 * s + 13) (37 * p + 6 * (n - 1) + 13) 6) (37 * p + 12) ((n - 1 : Nat) : Int))) := by
  refine ev_n (fr' := (63, [some (vr 135), some (vi (p : Int)), some (vi (s : Int)), some (vi ((n - 1 : Nat) : Int)), some (vi (k : Int))], [vi ((n - 1 : Nat) : Int), vi (p : Int), vi (k : Int)])) (S' := MS I J cc ss) 3 rfl ?_
  refine ev_cv rfl rfl rfl ⟨Nat.le_of_ble_eq_true rfl, Nat.le_of_ble_eq_true rfl⟩ (sp_shapeAt X _ (p : Int) ((n - 1 : Nat) : Int) (by omega)) ?_
  show Ev X k_X9_removeShape (66, [some (vr 135), some (vi (p : Int)), some (vi (s : Int)), some (vi ((n - 1 : Nat) : Int)), some (vi (k : Int))], [vi (37 * (p : Int) + 6 * ((n - 1 : Nat) : Int) + 13), vi (k : Int)]) (MS I J cc ss) _
  refine ev_ic (c := .ge) (off := 26) rfl (by decide) (fun (g1 : 37 * (p : Int) + 6 * ((n - 1 : Nat) : Int) + 13 ≤ (k : Int)) => ?_) (fun (g1 : ¬ (37 * (p : Int) + 6 * ((n - 1 : Nat) : Int) + 13 ≤ (k : Int))) => ?_)
  · show Ev X k_X9_removeShape (92, [some (vr 135), some (vi (p : Int)), some (vi (s : Int)), some (vi ((n - 1 : Nat) : Int)), some (vi (k : Int))], []) (MS I J cc ss) _
    refine ev_n (fr' := (101, [some (vr 135), some (vi (p : Int)), some (vi (s : Int)), some (vi ((n - 1 : Nat) : Int)), some (vi (k : Int))], [vi (p : Int), vi 37, vi 12, vr 136])) (S' := MS I J cc ss) 5 rfl ?_
    refine ev_mul (z := 37 * (p : Int)) rfl (by omega) (by omega) (by omega) ?_
    show Ev X k_X9_removeShape (102, [some (vr 135), some (vi (p : Int)), some (vi (s : Int)), some (vi ((n - 1 : Nat) : Int)), some (vi (k : Int))], [vi (37 * (p : Int)), vi 12, vr 136]) (MS I J cc ss) _
    refine ev_add (z := 37 * (p : Int) + 12) rfl (by omega) (by omega) (by omega) ?_
    show Ev X k_X9_removeShape (103, [some (vr 135), some (vi (p : Int)), some (vi (s : Int)), some (vi ((n - 1 : Nat) : Int)), some (vi (k : Int))], [vi (37 * (p : Int) + 12), vr 136]) (MS I J cc ss) _
    refine ev_n (fr' := (105, [some (vr 135), some (vi (p : Int)), some (vi (s : Int)), some (vi ((n - 1 : Nat) : Int)), some (vi (k : Int))], [vl ((n - 1 : Nat) : Int), vi (37 * (p : Int) + 12), vr 136])) (S' := MS I J cc ss) 2 rfl ?_
    refine ev_lasN (j := 37 * p + 12) rfl rfl (by omega) (by omega) ?_
    show Ev X k_X9_removeShape (106, [some (vr 135), some (vi (p : Int)), some (vi (s : Int)), some (vi ((n - 1 : Nat) : Int)), some (vi (k : Int))], []) (MS I (up2 J 136 (37 * p + 12) ((n - 1 : Nat) : Int)) cc ss) _
    refine ev_n (fr' := (107, [some (vr 135), some (vi (p : Int)), some (vi (s : Int)), some (vi ((n - 1 : Nat) : Int)), some (vi (k : Int))], [vi ((n - 1 : Nat) : Int)])) (S' := MS I (up2 J 136 (37 * p + 12) ((n - 1 : Nat) : Int)) cc ss) 1 rfl ?_
    refine ev_r rfl rfl rfl ?_
    have ek : k = 37 * p + 6 * (n - 1) + 13 := by omega
    subst ek
    exact ⟨_, _, rfl, rfl, rfl, fun a ha => (up2_row _ _ _ _ ha).trans (hJ a ha), (up2_u1 hg).trans rfl⟩
  · show Ev X k_X9_removeShape (69, [some (vr 135), some (vi (p : Int)), some (vi (s : Int)), some (vi ((n - 1 : Nat) : Int)), some (vi (k : Int))], []) (MS I J cc ss) _
    refine ev_n (fr' := (83, [some (vr 135), some (vi (p : Int)), some (vi (s : Int)), some (vi ((n - 1 : Nat) : Int)), some (vi (k : Int))], [vi 6, vi (k : Int), vr 136, vi (k : Int), vr 136])) (S' := MS I J cc ss) 7 rfl ?_
    refine ev_add (z := (k : Int) + 6) rfl (by omega) (by omega) (by omega) ?_
    show Ev X k_X9_removeShape (84, [some (vr 135), some (vi (p : Int)), some (vi (s : Int)), some (vi ((n - 1 : Nat) : Int)), some (vi (k : Int))], [vi ((k : Int) + 6), vr 136, vi (k : Int), vr 136]) (MS I J cc ss) _
    refine ev_laN (j := k + 6) (z := (shD g (37 * p + 6 * s + 13) k 6 (k + 6))) rfl rfl (by omega) (by omega) (congrFun hg _) ?_
    show Ev X k_X9_removeShape (85, [some (vr 135), some (vi (p : Int)), some (vi (s : Int)), some (vi ((n - 1 : Nat) : Int)), some (vi (k : Int))], [vl (shD g (37 * p + 6 * s + 13) k 6 (k + 6)), vi (k : Int), vr 136]) (MS I J cc ss) _
    refine ev_lasN (j := k) rfl rfl (by omega) (by omega) ?_
    show Ev X k_X9_removeShape (86, [some (vr 135), some (vi (p : Int)), some (vi (s : Int)), some (vi ((n - 1 : Nat) : Int)), some (vi (k : Int))], []) (MS I (up2 J 136 k (shD g (37 * p + 6 * s + 13) k 6 (k + 6))) cc ss) _
    refine ev_inc (z := (k : Int) + 1) rfl rfl (by omega) (by omega) (by omega) rfl ?_
    show Ev X k_X9_removeShape (89, [some (vr 135), some (vi (p : Int)), some (vi (s : Int)), some (vi ((n - 1 : Nat) : Int)), some (vi ((k : Int) + 1))], []) (MS I (up2 J 136 k (shD g (37 * p + 6 * s + 13) k 6 (k + 6))) cc ss) _
    refine ev_n (fr' := (59, [some (vr 135), some (vi (p : Int)), some (vi (s : Int)), some (vi ((n - 1 : Nat) : Int)), some (vi ((k : Int) + 1))], [])) (S' := MS I (up2 J 136 k (shD g (37 * p + 6 * s + 13) k 6 (k + 6))) cc ss) 1 rfl ?_
    exact lp_rrp X I _ cc ss J0 p s n hp8 hs6 hn6 (k + 1) (by omega) (by omega) (fun a ha => by rw [up2_row _ _ _ _ ha]; exact hJ a ha) ((up2_u1 hg).trans (shD_next g _ k 6 (by omega) (by decide)))
termination_by 37 * p + 6 * (n - 1) + 13 - k
decreasing_by all_goals omega
theorem rb_removeShape (X : AX) (I J : Nat → Nat → Int) (cc ss : Nat) (p s n : Nat) {g : F1} (hg : J 136 = g) (hws : WS g) (hwp : WP g) (hwi : WI g) {hs : Nat → F1} {m : Nat} (hm : I 135 3 = (m : Int)) (hm8 : m ≤ 8) (hH : MH J hs m) (hp : (p : Int) < g 11) (hn : g (37 * p + 12) = (n : Int)) (hsn : s < n) (hn1 : 1 < n) : Ev X k_X9_removeShape (0, [some (vr 135), some (vi (p : Int)), some (vi (s : Int)), none, none], []) (MS I J cc ss) (PV cc ss (some (vi (((n - 1 : Nat) : Int)))) (fun I' J' => NewR I I' J J' hs m g (upd1 (shD g (37 * p + 6 * s + 13) (37 * p + 6 * (n - 1) + 13) 6) (37 * p + 12) ((n - 1 : Nat) : Int)))) := by
  have q0 := hws.1
  have q1 := hws.2.1
  have q2 := hwp.1
  have q3 := hwp.2.1
  have q4 := hwi.1
  have q5 := hwi.2.1
  have hr := (hwp.2.2 p hp).2.1
  refine ev_n (fr' := (4, [some (vr 135), some (vi (p : Int)), some (vi (s : Int)), none, none], [vi (s : Int), vi (p : Int), vr 135, vr 135])) (S' := MS I J cc ss) 4 rfl ?_
  refine ev_cv rfl rfl rfl ⟨Nat.le_of_ble_eq_true rfl, Nat.le_of_ble_eq_true rfl⟩ (sp_isShape_n X _ _ _ _ p (s : Int) hg hws hwp hwi (by omega)) ?_
  show Ev X k_X9_removeShape (7, [some (vr 135), some (vi (p : Int)), some (vi (s : Int)), none, none], [vi (if 0 ≤ (s : Int) ∧ (s : Int) < g (37 * p + 12) then 1 else 0), vr 135]) (MS I J cc ss) _
  refine ev_bne _ rfl (by decide) (fun (g1 : 0 ≤ (s : Int) ∧ (s : Int) < g (37 * p + 12)) => ?_) (fun (g1 : ¬ (0 ≤ (s : Int) ∧ (s : Int) < g (37 * p + 12))) => False.elim (g1 (by omega)))
  show Ev X k_X9_removeShape (14, [some (vr 135), some (vi (p : Int)), some (vi (s : Int)), none, none], [vr 135]) (MS I J cc ss) _
  refine ev_n (fr' := (16, [some (vr 135), some (vi (p : Int)), some (vi (s : Int)), none, none], [vi (p : Int), vr 135, vr 135])) (S' := MS I J cc ss) 2 rfl ?_
  refine ev_cv rfl rfl rfl ⟨Nat.le_of_ble_eq_true rfl, Nat.le_of_ble_eq_true rfl⟩ (sp_shapesOf_r X _ _ _ _ p hg hwp (by omega)) ?_
  show Ev X k_X9_removeShape (19, [some (vr 135), some (vi (p : Int)), some (vi (s : Int)), none, none], [vi (g (37 * p + 12)), vr 135]) (MS I J cc ss) _
  refine ev_n (fr' := (20, [some (vr 135), some (vi (p : Int)), some (vi (s : Int)), none, none], [vi 1, vi (g (37 * p + 12)), vr 135])) (S' := MS I J cc ss) 1 rfl ?_
  refine ev_ic (c := .ne) (off := 7) rfl (by decide) (fun (g2 : (g (37 * p + 12)) ≠ 1) => ?_) (fun (g2 : ¬ ((g (37 * p + 12)) ≠ 1)) => False.elim (by omega))
  show Ev X k_X9_removeShape (27, [some (vr 135), some (vi (p : Int)), some (vi (s : Int)), none, none], [vr 135]) (MS I J cc ss) _
  refine ev_n (fr' := (28, [some (vr 135), some (vi (p : Int)), some (vi (s : Int)), none, none], [vi 0, vr 135])) (S' := MS I J cc ss) 1 rfl ?_
  refine ev_n (fr' := (31, [some (vr 135), some (vi (p : Int)), some (vi (s : Int)), none, none], [])) (S' := MS (up2 I 135 4 0) J cc ss) 1 rfl ?_
  refine ev_n (fr' := (41, [some (vr 135), some (vi (p : Int)), some (vi (s : Int)), none, none], [vr 135])) (S' := MS (up2 I 135 4 0) J cc ss) 4 rfl ?_
  refine ev_cp rfl rfl rfl ⟨Nat.le_of_ble_eq_true rfl, Nat.le_of_ble_eq_true rfl⟩ (sp_keeps X _ _ _ _ hg (m := m) ((up2_ne2 _ _ _ _ (by decide)).trans hm) hm8 hH) (fun I1 J2 q3 => ?_)
  obtain ⟨rK, hm9, hH9⟩ := q3
  show Ev X k_X9_removeShape (44, [some (vr 135), some (vi (p : Int)), some (vi (s : Int)), none, none], []) (MS I1 J2 cc ss) _
  have hg := (rK.2.2 136 (by decide)).trans hg
  refine ev_n (fr' := (46, [some (vr 135), some (vi (p : Int)), some (vi (s : Int)), none, none], [vi (p : Int), vr 135])) (S' := MS I1 J2 cc ss) 2 rfl ?_
  refine ev_cv rfl rfl rfl ⟨Nat.le_of_ble_eq_true rfl, Nat.le_of_ble_eq_true rfl⟩ (sp_shapesOf_r X _ _ _ _ p hg hwp (by omega)) ?_
  show Ev X k_X9_removeShape (49, [some (vr 135), some (vi (p : Int)), some (vi (s : Int)), none, none], [vi (g (37 * p + 12))]) (MS I1 J2 cc ss) _
  refine ev_n (fr' := (50, [some (vr 135), some (vi (p : Int)), some (vi (s : Int)), none, none], [vi 1, vi (g (37 * p + 12))])) (S' := MS I1 J2 cc ss) 1 rfl ?_
  refine ev_sub (z := (g (37 * p + 12)) - 1) rfl (by omega) (by omega) (by omega) ?_
  show Ev X k_X9_removeShape (51, [some (vr 135), some (vi (p : Int)), some (vi (s : Int)), none, none], [vi ((g (37 * p + 12)) - 1)]) (MS I1 J2 cc ss) _
  refine ev_eqi (show (g (37 * p + 12)) - 1 = ((n - 1 : Nat) : Int) from by omega) ?_
  show Ev X k_X9_removeShape (51, [some (vr 135), some (vi (p : Int)), some (vi (s : Int)), none, none], [vi ((n - 1 : Nat) : Int)]) (MS I1 J2 cc ss) _
  refine ev_n (fr' := (54, [some (vr 135), some (vi (p : Int)), some (vi (s : Int)), some (vi ((n - 1 : Nat) : Int)), none], [vi (s : Int), vi (p : Int)])) (S' := MS I1 J2 cc ss) 3 rfl ?_
  refine ev_cv rfl rfl rfl ⟨Nat.le_of_ble_eq_true rfl, Nat.le_of_ble_eq_true rfl⟩ (sp_shapeAt X _ (p : Int) (s : Int) (by omega)) ?_
  show Ev X k_X9_removeShape (57, [some (vr 135), some (vi (p : Int)), some (vi (s : Int)), some (vi ((n - 1 : Nat) : Int)), none], [vi (37 * (p : Int) + 6 * (s : Int) + 13)]) (MS I1 J2 cc ss) _
  refine ev_n (fr' := (59, [some (vr 135), some (vi (p : Int)), some (vi (s : Int)), some (vi ((n - 1 : Nat) : Int)), some (vi (37 * (p : Int) + 6 * (s : Int) + 13))], [])) (S' := MS I1 J2 cc ss) 1 rfl ?_
  refine (lp_rrp X _ _ cc ss _ p s n (by omega) hsn (by omega) (37 * p + 6 * s + 13) (by omega) (by omega) (fun _ _ => rfl) (hg.trans (shD_0 _ _ _).symm)).mono ?_
  rintro o T ⟨I', J', rfl, rfl, rfl, h8, h9⟩
  exact ⟨_, _, rfl, rfl, nEnd rK hm9 hH9 h8 h9⟩
theorem lp_rru (X : AX) (I J : Nat → Nat → Int) (cc ss : Nat) (J0 : F2) {g : F1} (p s n : Nat) (hp8 : p < 8) (hs6 : s < n) (hn6 : n ≤ 6) (k : Nat) (hk : 19 * p + 3 * s + 310 ≤ k) (hk2 : k ≤ 19 * p + 3 * (n - 1) + 310) (hJ : ∀ a, a ≠ 136 → J a = J0 a) (hg : J 136 = shD g (19 * p + 3 * s + 310) k 3) : Ev X k_X9_removeUse (46, [some (vr 135), some (vi (p : Int)), some (vi (s : Int)), some (vi ((n - 1 : Nat) : Int)), some (vi (k : Int))], []) (MS I J cc ss) (PV cc ss (some (vi ((n - 1 : Nat) : Int))) (fun I' J' => I' = I ∧ (∀ a, a ≠ 136 → J' a = J0 a) ∧ J' 136 = upd1 (shD g (19 * p + 3 * s + 310) (19 * p + 3 * (n - 1) + 310) 3) (19 * p + 309) ((n - 1 : Nat) : Int))) := by
  refine ev_n (fr' := (50, [some (vr 135), some (vi (p : Int)), some (vi (s : Int)), some (vi ((n - 1 : Nat) : Int)), some (vi (k : Int))], [vi ((n - 1 : Nat) : Int), vi (p : Int), vi (k : Int)])) (S' := MS I J cc ss) 3 rfl ?_
  refine ev_cv rfl rfl rfl ⟨Nat.le_of_ble_eq_true rfl, Nat.le_of_ble_eq_true rfl⟩ (sp_useAt X _ (p : Int) ((n - 1 : Nat) : Int) (by omega)) ?_
  show Ev X k_X9_removeUse (53, [some (vr 135), some (vi (p : Int)), some (vi (s : Int)), some (vi ((n - 1 : Nat) : Int)), some (vi (k : Int))], [vi (19 * (p : Int) + 3 * ((n - 1 : Nat) : Int) + 310), vi (k : Int)]) (MS I J cc ss) _
  refine ev_ic (c := .ge) (off := 25) rfl (by decide) (fun (g1 : 19 * (p : Int) + 3 * ((n - 1 : Nat) : Int) + 310 ≤ (k : Int)) => ?_) (fun (g1 : ¬ (19 * (p : Int) + 3 * ((n - 1 : Nat) : Int) + 310 ≤ (k : Int))) => ?_)
  · show Ev X k_X9_removeUse (78, [some (vr 135), some (vi (p : Int)), some (vi (s : Int)), some (vi ((n - 1 : Nat) : Int)), some (vi (k : Int))], []) (MS I J cc ss) _
    refine ev_n (fr' := (88, [some (vr 135), some (vi (p : Int)), some (vi (s : Int)), some (vi ((n - 1 : Nat) : Int)), some (vi (k : Int))], [vi (p : Int), vi 19, vi 309, vr 136])) (S' := MS I J cc ss) 5 rfl ?_
    refine ev_mul (z := 19 * (p : Int)) rfl (by omega) (by omega) (by omega) ?_
    show Ev X k_X9_removeUse (89, [some (vr 135), some (vi (p : Int)), some (vi (s : Int)), some (vi ((n - 1 : Nat) : Int)), some (vi (k : Int))], [vi (19 * (p : Int)), vi 309, vr 136]) (MS I J cc ss) _
    refine ev_add (z := 19 * (p : Int) + 309) rfl (by omega) (by omega) (by omega) ?_
    show Ev X k_X9_removeUse (90, [some (vr 135), some (vi (p : Int)), some (vi (s : Int)), some (vi ((n - 1 : Nat) : Int)), some (vi (k : Int))], [vi (19 * (p : Int) + 309), vr 136]) (MS I J cc ss) _
    refine ev_n (fr' := (92, [some (vr 135), some (vi (p : Int)), some (vi (s : Int)), some (vi ((n - 1 : Nat) : Int)), some (vi (k : Int))], [vl ((n - 1 : Nat) : Int), vi (19 * (p : Int) + 309), vr 136])) (S' := MS I J cc ss) 2 rfl ?_
    refine ev_lasN (j := 19 * p + 309) rfl rfl (by omega) (by omega) ?_
    show Ev X k_X9_removeUse (93, [some (vr 135), some (vi (p : Int)), some (vi (s : Int)), some (vi ((n - 1 : Nat) : Int)), some (vi (k : Int))], []) (MS I (up2 J 136 (19 * p + 309) ((n - 1 : Nat) : Int)) cc ss) _
    refine ev_n (fr' := (94, [some (vr 135), some (vi (p : Int)), some (vi (s : Int)), some (vi ((n - 1 : Nat) : Int)), some (vi (k : Int))], [vi ((n - 1 : Nat) : Int)])) (S' := MS I (up2 J 136 (19 * p + 309) ((n - 1 : Nat) : Int)) cc ss) 1 rfl ?_
    refine ev_r rfl rfl rfl ?_
    have ek : k = 19 * p + 3 * (n - 1) + 310 := by omega
    subst ek
    exact ⟨_, _, rfl, rfl, rfl, fun a ha => (up2_row _ _ _ _ ha).trans (hJ a ha), (up2_u1 hg).trans rfl⟩
  · show Ev X k_X9_removeUse (56, [some (vr 135), some (vi (p : Int)), some (vi (s : Int)), some (vi ((n - 1 : Nat) : Int)), some (vi (k : Int))], []) (MS I J cc ss) _
    refine ev_n (fr' := (69, [some (vr 135), some (vi (p : Int)), some (vi (s : Int)), some (vi ((n - 1 : Nat) : Int)), some (vi (k : Int))], [vi 3, vi (k : Int), vr 136, vi (k : Int), vr 136])) (S' := MS I J cc ss) 7 rfl ?_
    refine ev_add (z := (k : Int) + 3) rfl (by omega) (by omega) (by omega) ?_
    show Ev X k_X9_removeUse (70, [some (vr 135), some (vi (p : Int)), some (vi (s : Int)), some (vi ((n - 1 : Nat) : Int)), some (vi (k : Int))], [vi ((k : Int) + 3), vr 136, vi (k : Int), vr 136]) (MS I J cc ss) _
    refine ev_laN (j := k + 3) (z := (shD g (19 * p + 3 * s + 310) k 3 (k + 3))) rfl rfl (by omega) (by omega) (congrFun hg _) ?_
    show Ev X k_X9_removeUse (71, [some (vr 135), some (vi (p : Int)), some (vi (s : Int)), some (vi ((n - 1 : Nat) : Int)), some (vi (k : Int))], [vl (shD g (19 * p + 3 * s + 310) k 3 (k + 3)), vi (k : Int), vr 136]) (MS I J cc ss) _
    refine ev_lasN (j := k) rfl rfl (by omega) (by omega) ?_
    show Ev X k_X9_removeUse (72, [some (vr 135), some (vi (p : Int)), some (vi (s : Int)), some (vi ((n - 1 : Nat) : Int)), some (vi (k : Int))], []) (MS I (up2 J 136 k (shD g (19 * p + 3 * s + 310) k 3 (k + 3))) cc ss) _
    refine ev_inc (z := (k : Int) + 1) rfl rfl (by omega) (by omega) (by omega) rfl ?_
    show Ev X k_X9_removeUse (75, [some (vr 135), some (vi (p : Int)), some (vi (s : Int)), some (vi ((n - 1 : Nat) : Int)), some (vi ((k : Int) + 1))], []) (MS I (up2 J 136 k (shD g (19 * p + 3 * s + 310) k 3 (k + 3))) cc ss) _
    refine ev_n (fr' := (46, [some (vr 135), some (vi (p : Int)), some (vi (s : Int)), some (vi ((n - 1 : Nat) : Int)), some (vi ((k : Int) + 1))], [])) (S' := MS I (up2 J 136 k (shD g (19 * p + 3 * s + 310) k 3 (k + 3))) cc ss) 1 rfl ?_
    exact lp_rru X I _ cc ss J0 p s n hp8 hs6 hn6 (k + 1) (by omega) (by omega) (fun a ha => by rw [up2_row _ _ _ _ ha]; exact hJ a ha) ((up2_u1 hg).trans (shD_next g _ k 3 (by omega) (by decide)))
termination_by 19 * p + 3 * (n - 1) + 310 - k
decreasing_by all_goals omega
theorem rb_removeUse (X : AX) (I J : Nat → Nat → Int) (cc ss : Nat) (p s n : Nat) {g : F1} (hg : J 136 = g) (hws : WS g) (hwp : WP g) (hwi : WI g) {hs : Nat → F1} {m : Nat} (hm : I 135 3 = (m : Int)) (hm8 : m ≤ 8) (hH : MH J hs m) (hp : (p : Int) < g 308) (hn : g (19 * p + 309) = (n : Int)) (hsn : s < n) : Ev X k_X9_removeUse (0, [some (vr 135), some (vi (p : Int)), some (vi (s : Int)), none, none], []) (MS I J cc ss) (PV cc ss (some (vi (((n - 1 : Nat) : Int)))) (fun I' J' => NewR I I' J J' hs m g (upd1 (shD g (19 * p + 3 * s + 310) (19 * p + 3 * (n - 1) + 310) 3) (19 * p + 309) ((n - 1 : Nat) : Int)))) := by
  have q0 := hws.1
  have q1 := hws.2.1
  have q2 := hwp.1
  have q3 := hwp.2.1
  have q4 := hwi.1
  have q5 := hwi.2.1
  have hr := (hwi.2.2 p hp).2.1
  refine ev_n (fr' := (4, [some (vr 135), some (vi (p : Int)), some (vi (s : Int)), none, none], [vi (s : Int), vi (p : Int), vr 135, vr 135])) (S' := MS I J cc ss) 4 rfl ?_
  refine ev_cv rfl rfl rfl ⟨Nat.le_of_ble_eq_true rfl, Nat.le_of_ble_eq_true rfl⟩ (sp_isUse_n X _ _ _ _ p (s : Int) hg hws hwp hwi (by omega)) ?_
  show Ev X k_X9_removeUse (7, [some (vr 135), some (vi (p : Int)), some (vi (s : Int)), none, none], [vi (if 0 ≤ (s : Int) ∧ (s : Int) < g (19 * p + 309) then 1 else 0), vr 135]) (MS I J cc ss) _
  refine ev_beq _ rfl (by decide) (fun (g1 : ¬ (0 ≤ (s : Int) ∧ (s : Int) < g (19 * p + 309))) => False.elim (g1 (by omega))) (fun (g1 : 0 ≤ (s : Int) ∧ (s : Int) < g (19 * p + 309)) => ?_)
  show Ev X k_X9_removeUse (10, [some (vr 135), some (vi (p : Int)), some (vi (s : Int)), none, none], [vr 135]) (MS I J cc ss) _
  refine ev_n (fr' := (15, [some (vr 135), some (vi (p : Int)), some (vi (s : Int)), none, none], [vi 0, vr 135])) (S' := MS I J cc ss) 2 rfl ?_
  refine ev_n (fr' := (18, [some (vr 135), some (vi (p : Int)), some (vi (s : Int)), none, none], [])) (S' := MS (up2 I 135 4 0) J cc ss) 1 rfl ?_
  refine ev_n (fr' := (28, [some (vr 135), some (vi (p : Int)), some (vi (s : Int)), none, none], [vr 135])) (S' := MS (up2 I 135 4 0) J cc ss) 4 rfl ?_
  refine ev_cp rfl rfl rfl ⟨Nat.le_of_ble_eq_true rfl, Nat.le_of_ble_eq_true rfl⟩ (sp_keeps X _ _ _ _ hg (m := m) ((up2_ne2 _ _ _ _ (by decide)).trans hm) hm8 hH) (fun I1 J2 q3 => ?_)
  obtain ⟨rK, hm9, hH9⟩ := q3
  show Ev X k_X9_removeUse (31, [some (vr 135), some (vi (p : Int)), some (vi (s : Int)), none, none], []) (MS I1 J2 cc ss) _
  have hg := (rK.2.2 136 (by decide)).trans hg
  refine ev_n (fr' := (33, [some (vr 135), some (vi (p : Int)), some (vi (s : Int)), none, none], [vi (p : Int), vr 135])) (S' := MS I1 J2 cc ss) 2 rfl ?_
  refine ev_cv rfl rfl rfl ⟨Nat.le_of_ble_eq_true rfl, Nat.le_of_ble_eq_true rfl⟩ (sp_usesOf_r X _ _ _ _ p hg hwi (by omega)) ?_
  show Ev X k_X9_removeUse (36, [some (vr 135), some (vi (p : Int)), some (vi (s : Int)), none, none], [vi (g (19 * p + 309))]) (MS I1 J2 cc ss) _
  refine ev_n (fr' := (37, [some (vr 135), some (vi (p : Int)), some (vi (s : Int)), none, none], [vi 1, vi (g (19 * p + 309))])) (S' := MS I1 J2 cc ss) 1 rfl ?_
  refine ev_sub (z := (g (19 * p + 309)) - 1) rfl (by omega) (by omega) (by omega) ?_
  show Ev X k_X9_removeUse (38, [some (vr 135), some (vi (p : Int)), some (vi (s : Int)), none, none], [vi ((g (19 * p + 309)) - 1)]) (MS I1 J2 cc ss) _
  refine ev_eqi (show (g (19 * p + 309)) - 1 = ((n - 1 : Nat) : Int) from by omega) ?_
  show Ev X k_X9_removeUse (38, [some (vr 135), some (vi (p : Int)), some (vi (s : Int)), none, none], [vi ((n - 1 : Nat) : Int)]) (MS I1 J2 cc ss) _
  refine ev_n (fr' := (41, [some (vr 135), some (vi (p : Int)), some (vi (s : Int)), some (vi ((n - 1 : Nat) : Int)), none], [vi (s : Int), vi (p : Int)])) (S' := MS I1 J2 cc ss) 3 rfl ?_
  refine ev_cv rfl rfl rfl ⟨Nat.le_of_ble_eq_true rfl, Nat.le_of_ble_eq_true rfl⟩ (sp_useAt X _ (p : Int) (s : Int) (by omega)) ?_
  show Ev X k_X9_removeUse (44, [some (vr 135), some (vi (p : Int)), some (vi (s : Int)), some (vi ((n - 1 : Nat) : Int)), none], [vi (19 * (p : Int) + 3 * (s : Int) + 310)]) (MS I1 J2 cc ss) _
  refine ev_n (fr' := (46, [some (vr 135), some (vi (p : Int)), some (vi (s : Int)), some (vi ((n - 1 : Nat) : Int)), some (vi (19 * (p : Int) + 3 * (s : Int) + 310))], [])) (S' := MS I1 J2 cc ss) 1 rfl ?_
  refine (lp_rru X _ _ cc ss _ p s n (by omega) hsn (by omega) (19 * p + 3 * s + 310) (by omega) (by omega) (fun _ _ => rfl) (hg.trans (shD_0 _ _ _).symm)).mono ?_
  rintro o T ⟨I', J', rfl, rfl, rfl, h8, h9⟩
  exact ⟨_, _, rfl, rfl, nEnd rK hm9 hH9 h8 h9⟩
theorem rb_setShape_x (X : AX) (I J : Nat → Nat → Int) (cc ss : Nat) {g : F1} (y t z x : Int) (hg : J 136 = g) (hws : WS g) (hwp : WP g) (hwi : WI g) (h : ¬ (0 ≤ y ∧ y < g 11)) : Ev X k_X9_setShape (0, [some (vr 135), some (vi y), some (vi t), some (vi z), some (vi x), none], []) (MS I J cc ss) (fun o T => o = .inl (some (vi 0)) ∧ T = MS (up2 I 135 4 1) J cc ss) := by
  have q0 := hws.1
  have q1 := hws.2.1
  have q2 := hwp.1
  have q3 := hwp.2.1
  have q4 := hwi.1
  have q5 := hwi.2.1
  refine ev_n (fr' := (4, [some (vr 135), some (vi y), some (vi t), some (vi z), some (vi x), none], [vi t, vi y, vr 135, vr 135])) (S' := MS I J cc ss) 4 rfl ?_
  refine ev_cv rfl rfl rfl ⟨Nat.le_of_ble_eq_true rfl, Nat.le_of_ble_eq_true rfl⟩ (sp_isShape_0 X _ _ _ _ y t hg hws hwp hwi h) ?_
  show Ev X k_X9_setShape (7, [some (vr 135), some (vi y), some (vi t), some (vi z), some (vi x), none], [vi 0, vr 135]) (MS I J cc ss) _
  refine ev_n (fr' := (32, [some (vr 135), some (vi y), some (vi t), some (vi z), some (vi x), none], [vi 1, vr 135])) (S' := MS I J cc ss) 3 rfl ?_
  refine ev_n (fr' := (35, [some (vr 135), some (vi y), some (vi t), some (vi z), some (vi x), none], [])) (S' := MS (up2 I 135 4 1) J cc ss) 1 rfl ?_
  refine ev_n (fr' := (43, [some (vr 135), some (vi y), some (vi t), some (vi z), some (vi x), none], [vi 0])) (S' := MS (up2 I 135 4 1) J cc ss) 4 rfl ?_
  refine ev_r rfl rfl rfl ?_
  exact ⟨rfl, rfl⟩
theorem rb_setShape_y (X : AX) (I J : Nat → Nat → Int) (cc ss : Nat) {g : F1} (p : Nat) (t z x : Int) (hg : J 136 = g) (hws : WS g) (hwp : WP g) (hwi : WI g) (hp : (p : Int) < g 11) (h : ¬ (0 ≤ t ∧ t < g (37 * p + 12))) : Ev X k_X9_setShape (0, [some (vr 135), some (vi (p : Int)), some (vi t), some (vi z), some (vi x), none], []) (MS I J cc ss) (fun o T => o = .inl (some (vi 0)) ∧ T = MS (up2 I 135 4 1) J cc ss) := by
  have q0 := hws.1
  have q1 := hws.2.1
  have q2 := hwp.1
  have q3 := hwp.2.1
  have q4 := hwi.1
  have q5 := hwi.2.1
  refine ev_n (fr' := (4, [some (vr 135), some (vi (p : Int)), some (vi t), some (vi z), some (vi x), none], [vi t, vi (p : Int), vr 135, vr 135])) (S' := MS I J cc ss) 4 rfl ?_
  refine ev_cv rfl rfl rfl ⟨Nat.le_of_ble_eq_true rfl, Nat.le_of_ble_eq_true rfl⟩ (sp_isShape_n X _ _ _ _ p t hg hws hwp hwi (by omega)) ?_
  show Ev X k_X9_setShape (7, [some (vr 135), some (vi (p : Int)), some (vi t), some (vi z), some (vi x), none], [vi (if 0 ≤ t ∧ t < g (37 * p + 12) then 1 else 0), vr 135]) (MS I J cc ss) _
  refine ev_bne _ rfl (by decide) (fun (g1 : 0 ≤ t ∧ t < g (37 * p + 12)) => False.elim ((h) g1)) (fun (g1 : ¬ (0 ≤ t ∧ t < g (37 * p + 12))) => ?_)
  show Ev X k_X9_setShape (10, [some (vr 135), some (vi (p : Int)), some (vi t), some (vi z), some (vi x), none], [vr 135]) (MS I J cc ss) _
  refine ev_n (fr' := (32, [some (vr 135), some (vi (p : Int)), some (vi t), some (vi z), some (vi x), none], [vi 1, vr 135])) (S' := MS I J cc ss) 2 rfl ?_
  refine ev_n (fr' := (35, [some (vr 135), some (vi (p : Int)), some (vi t), some (vi z), some (vi x), none], [])) (S' := MS (up2 I 135 4 1) J cc ss) 1 rfl ?_
  refine ev_n (fr' := (43, [some (vr 135), some (vi (p : Int)), some (vi t), some (vi z), some (vi x), none], [vi 0])) (S' := MS (up2 I 135 4 1) J cc ss) 4 rfl ?_
  refine ev_r rfl rfl rfl ?_
  exact ⟨rfl, rfl⟩
theorem rb_setShape_z (X : AX) (I J : Nat → Nat → Int) (cc ss : Nat) {g : F1} (p s : Nat) (z x : Int) (hg : J 136 = g) (hws : WS g) (hwp : WP g) (hwi : WI g) (hp : (p : Int) < g 11) (hs2 : (s : Int) < g (37 * p + 12)) (h : ¬ ((1 ≤ z ∧ z ≤ 5) ∧ fitP (g (37 * p + 6 * s + 13)) z x)) : Ev X k_X9_setShape (0, [some (vr 135), some (vi (p : Int)), some (vi (s : Int)), some (vi z), some (vi x), none], []) (MS I J cc ss) (fun o T => o = .inl (some (vi 0)) ∧ T = MS (up2 I 135 4 2) J cc ss) := by
  have q0 := hws.1
  have q1 := hws.2.1
  have q2 := hwp.1
  have q3 := hwp.2.1
  have q4 := hwi.1
  have q5 := hwi.2.1
  have hr := (hwp.2.2 p hp).2.1
  have hr1 := (hwp.2.2 p hp).1
  refine ev_n (fr' := (4, [some (vr 135), some (vi (p : Int)), some (vi (s : Int)), some (vi z), some (vi x), none], [vi (s : Int), vi (p : Int), vr 135, vr 135])) (S' := MS I J cc ss) 4 rfl ?_
  refine ev_cv rfl rfl rfl ⟨Nat.le_of_ble_eq_true rfl, Nat.le_of_ble_eq_true rfl⟩ (sp_isShape_n X _ _ _ _ p (s : Int) hg hws hwp hwi (by omega)) ?_
  show Ev X k_X9_setShape (7, [some (vr 135), some (vi (p : Int)), some (vi (s : Int)), some (vi z), some (vi x), none], [vi (if 0 ≤ (s : Int) ∧ (s : Int) < g (37 * p + 12) then 1 else 0), vr 135]) (MS I J cc ss) _
  refine ev_bne _ rfl (by decide) (fun (g1 : 0 ≤ (s : Int) ∧ (s : Int) < g (37 * p + 12)) => ?_) (fun (g1 : ¬ (0 ≤ (s : Int) ∧ (s : Int) < g (37 * p + 12))) => False.elim (g1 (by omega)))
  show Ev X k_X9_setShape (14, [some (vr 135), some (vi (p : Int)), some (vi (s : Int)), some (vi z), some (vi x), none], [vr 135]) (MS I J cc ss) _
  refine ev_n (fr' := (21, [some (vr 135), some (vi (p : Int)), some (vi (s : Int)), some (vi z), some (vi x), none], [vl x, vi z, vi (s : Int), vi (p : Int), vr 135, vr 135])) (S' := MS I J cc ss) 6 rfl ?_
  refine ev_cv rfl rfl rfl ⟨Nat.le_of_ble_eq_true rfl, Nat.le_of_ble_eq_true rfl⟩ (sp_isValue X _ _ _ _ p s z x hg hwp (by omega) (by omega)) ?_
  show Ev X k_X9_setShape (24, [some (vr 135), some (vi (p : Int)), some (vi (s : Int)), some (vi z), some (vi x), none], [vi (if (1 ≤ z ∧ z ≤ 5) ∧ fitP (g (37 * p + 6 * s + 13)) z x then 1 else 0), vr 135]) (MS I J cc ss) _
  refine ev_beq _ rfl (by decide) (fun (g2 : ¬ ((1 ≤ z ∧ z ≤ 5) ∧ fitP (g (37 * p + 6 * s + 13)) z x)) => ?_) (fun (g2 : (1 ≤ z ∧ z ≤ 5) ∧ fitP (g (37 * p + 6 * s + 13)) z x) => False.elim ((h) g2))
  show Ev X k_X9_setShape (31, [some (vr 135), some (vi (p : Int)), some (vi (s : Int)), some (vi z), some (vi x), none], [vr 135]) (MS I J cc ss) _
  refine ev_n (fr' := (32, [some (vr 135), some (vi (p : Int)), some (vi (s : Int)), some (vi z), some (vi x), none], [vi 2, vr 135])) (S' := MS I J cc ss) 1 rfl ?_
  refine ev_n (fr' := (35, [some (vr 135), some (vi (p : Int)), some (vi (s : Int)), some (vi z), some (vi x), none], [])) (S' := MS (up2 I 135 4 2) J cc ss) 1 rfl ?_
  refine ev_n (fr' := (43, [some (vr 135), some (vi (p : Int)), some (vi (s : Int)), some (vi z), some (vi x), none], [vi 0])) (S' := MS (up2 I 135 4 2) J cc ss) 4 rfl ?_
  refine ev_r rfl rfl rfl ?_
  exact ⟨rfl, rfl⟩
theorem rb_setShape (X : AX) (I J : Nat → Nat → Int) (cc ss : Nat) (p s v : Nat) (x : Int) {g : F1} (hg : J 136 = g) (hws : WS g) (hwp : WP g) (hwi : WI g) {hs : Nat → F1} {m : Nat} (hm : I 135 3 = (m : Int)) (hm8 : m ≤ 8) (hH : MH J hs m) (hp : (p : Int) < g 11) (hs2 : (s : Int) < g (37 * p + 12)) (hv : 1 ≤ v ∧ v ≤ 5) (h : fitP (g (37 * p + 6 * s + 13)) (v : Int) x) : Ev X k_X9_setShape (0, [some (vr 135), some (vi (p : Int)), some (vi (s : Int)), some (vi (v : Int)), some (vi x), none], []) (MS I J cc ss) (PV cc ss (some (vi (g (37 * p + 6 * s + v + 13)))) (fun I' J' => NewR I I' J J' hs m g (upd1 g (37 * p + 6 * s + v + 13) x))) := by
  have q0 := hws.1
  have q1 := hws.2.1
  have q2 := hwp.1
  have q3 := hwp.2.1
  have q4 := hwi.1
  have q5 := hwi.2.1
  have hr := (hwp.2.2 p hp).2.1
  have hr1 := (hwp.2.2 p hp).1
  refine ev_n (fr' := (4, [some (vr 135), some (vi (p : Int)), some (vi (s : Int)), some (vi (v : Int)), some (vi x), none], [vi (s : Int), vi (p : Int), vr 135, vr 135])) (S' := MS I J cc ss) 4 rfl ?_
  refine ev_cv rfl rfl rfl ⟨Nat.le_of_ble_eq_true rfl, Nat.le_of_ble_eq_true rfl⟩ (sp_isShape_n X _ _ _ _ p (s : Int) hg hws hwp hwi (by omega)) ?_
  show Ev X k_X9_setShape (7, [some (vr 135), some (vi (p : Int)), some (vi (s : Int)), some (vi (v : Int)), some (vi x), none], [vi (if 0 ≤ (s : Int) ∧ (s : Int) < g (37 * p + 12) then 1 else 0), vr 135]) (MS I J cc ss) _
  refine ev_bne _ rfl (by decide) (fun (g1 : 0 ≤ (s : Int) ∧ (s : Int) < g (37 * p + 12)) => ?_) (fun (g1 : ¬ (0 ≤ (s : Int) ∧ (s : Int) < g (37 * p + 12))) => False.elim (g1 (by omega)))
  show Ev X k_X9_setShape (14, [some (vr 135), some (vi (p : Int)), some (vi (s : Int)), some (vi (v : Int)), some (vi x), none], [vr 135]) (MS I J cc ss) _
  refine ev_n (fr' := (21, [some (vr 135), some (vi (p : Int)), some (vi (s : Int)), some (vi (v : Int)), some (vi x), none], [vl x, vi (v : Int), vi (s : Int), vi (p : Int), vr 135, vr 135])) (S' := MS I J cc ss) 6 rfl ?_
  refine ev_cv rfl rfl rfl ⟨Nat.le_of_ble_eq_true rfl, Nat.le_of_ble_eq_true rfl⟩ (sp_isValue X _ _ _ _ p s (v : Int) x hg hwp (by omega) (by omega)) ?_
  show Ev X k_X9_setShape (24, [some (vr 135), some (vi (p : Int)), some (vi (s : Int)), some (vi (v : Int)), some (vi x), none], [vi (if (1 ≤ (v : Int) ∧ (v : Int) ≤ 5) ∧ fitP (g (37 * p + 6 * s + 13)) (v : Int) x then 1 else 0), vr 135]) (MS I J cc ss) _
  refine ev_beq _ rfl (by decide) (fun (g2 : ¬ ((1 ≤ (v : Int) ∧ (v : Int) ≤ 5) ∧ fitP (g (37 * p + 6 * s + 13)) (v : Int) x)) => False.elim (g2 (⟨by omega, h⟩))) (fun (g2 : (1 ≤ (v : Int) ∧ (v : Int) ≤ 5) ∧ fitP (g (37 * p + 6 * s + 13)) (v : Int) x) => ?_)
  show Ev X k_X9_setShape (27, [some (vr 135), some (vi (p : Int)), some (vi (s : Int)), some (vi (v : Int)), some (vi x), none], [vr 135]) (MS I J cc ss) _
  refine ev_n (fr' := (32, [some (vr 135), some (vi (p : Int)), some (vi (s : Int)), some (vi (v : Int)), some (vi x), none], [vi 0, vr 135])) (S' := MS I J cc ss) 2 rfl ?_
  refine ev_n (fr' := (35, [some (vr 135), some (vi (p : Int)), some (vi (s : Int)), some (vi (v : Int)), some (vi x), none], [])) (S' := MS (up2 I 135 4 0) J cc ss) 1 rfl ?_
  refine ev_n (fr' := (45, [some (vr 135), some (vi (p : Int)), some (vi (s : Int)), some (vi (v : Int)), some (vi x), none], [vr 135])) (S' := MS (up2 I 135 4 0) J cc ss) 4 rfl ?_
  refine ev_cp rfl rfl rfl ⟨Nat.le_of_ble_eq_true rfl, Nat.le_of_ble_eq_true rfl⟩ (sp_keeps X _ _ _ _ hg (m := m) ((up2_ne2 _ _ _ _ (by decide)).trans hm) hm8 hH) (fun I1 J2 q3 => ?_)
  obtain ⟨rK, hm9, hH9⟩ := q3
  show Ev X k_X9_setShape (48, [some (vr 135), some (vi (p : Int)), some (vi (s : Int)), some (vi (v : Int)), some (vi x), none], []) (MS I1 J2 cc ss) _
  have hg := (rK.2.2 136 (by decide)).trans hg
  refine ev_n (fr' := (52, [some (vr 135), some (vi (p : Int)), some (vi (s : Int)), some (vi (v : Int)), some (vi x), none], [vi (v : Int), vi (s : Int), vi (p : Int), vr 135])) (S' := MS I1 J2 cc ss) 4 rfl ?_
  refine ev_cv rfl rfl rfl ⟨Nat.le_of_ble_eq_true rfl, Nat.le_of_ble_eq_true rfl⟩ (sp_ofShape_r X _ _ _ _ p s v hg hwp (by omega) (by omega) (by omega)) ?_
  show Ev X k_X9_setShape (55, [some (vr 135), some (vi (p : Int)), some (vi (s : Int)), some (vi (v : Int)), some (vi x), none], [vi (g (37 * p + 6 * s + v + 13))]) (MS I1 J2 cc ss) _
  refine ev_n (fr' := (63, [some (vr 135), some (vi (p : Int)), some (vi (s : Int)), some (vi (v : Int)), some (vi x), some (vi (g (37 * p + 6 * s + v + 13)))], [vi (s : Int), vi (p : Int), vr 136])) (S' := MS I1 J2 cc ss) 5 rfl ?_
  refine ev_cv rfl rfl rfl ⟨Nat.le_of_ble_eq_true rfl, Nat.le_of_ble_eq_true rfl⟩ (sp_shapeAt X _ (p : Int) (s : Int) (by omega)) ?_
  show Ev X k_X9_setShape (66, [some (vr 135), some (vi (p : Int)), some (vi (s : Int)), some (vi (v : Int)), some (vi x), some (vi (g (37 * p + 6 * s + v + 13)))], [vi (37 * (p : Int) + 6 * (s : Int) + 13), vr 136]) (MS I1 J2 cc ss) _
  refine ev_n (fr' := (67, [some (vr 135), some (vi (p : Int)), some (vi (s : Int)), some (vi (v : Int)), some (vi x), some (vi (g (37 * p + 6 * s + v + 13)))], [vi (v : Int), vi (37 * (p : Int) + 6 * (s : Int) + 13), vr 136])) (S' := MS I1 J2 cc ss) 1 rfl ?_
  refine ev_add (z := 37 * (p : Int) + 6 * (s : Int) + (v : Int) + 13) rfl (by omega) (by omega) (by omega) ?_
  show Ev X k_X9_setShape (68, [some (vr 135), some (vi (p : Int)), some (vi (s : Int)), some (vi (v : Int)), some (vi x), some (vi (g (37 * p + 6 * s + v + 13)))], [vi (37 * (p : Int) + 6 * (s : Int) + (v : Int) + 13), vr 136]) (MS I1 J2 cc ss) _
  refine ev_n (fr' := (71, [some (vr 135), some (vi (p : Int)), some (vi (s : Int)), some (vi (v : Int)), some (vi x), some (vi (g (37 * p + 6 * s + v + 13)))], [vl x, vi (37 * (p : Int) + 6 * (s : Int) + (v : Int) + 13), vr 136])) (S' := MS I1 J2 cc ss) 2 rfl ?_
  refine ev_lasN (j := 37 * p + 6 * s + v + 13) rfl rfl (by omega) (by omega) ?_
  show Ev X k_X9_setShape (72, [some (vr 135), some (vi (p : Int)), some (vi (s : Int)), some (vi (v : Int)), some (vi x), some (vi (g (37 * p + 6 * s + v + 13)))], []) (MS I1 (up2 J2 136 (37 * p + 6 * s + v + 13) x) cc ss) _
  refine ev_n (fr' := (74, [some (vr 135), some (vi (p : Int)), some (vi (s : Int)), some (vi (v : Int)), some (vi x), some (vi (g (37 * p + 6 * s + v + 13)))], [vi (g (37 * p + 6 * s + v + 13))])) (S' := MS I1 (up2 J2 136 (37 * p + 6 * s + v + 13) x) cc ss) 1 rfl ?_
  refine ev_r rfl rfl rfl ?_
  exact ⟨_, _, rfl, rfl, nEnd rK hm9 hH9 (fun a ha => up2_row _ _ _ _ ha) (up2_u1 hg)⟩
