/-! THE LAW FROM ITS START (printed by gen/g98q.py) -/
theorem boot_facts : ∃ SB SC, runZ 20000 k_X8_init (0, [some (vr 0)], []) (mk S0 (0, 8) 8) = some (.inl none, SB) ∧ runZ 20000 k_X9_init (0, [some (vr 135)], []) (mk SB (0, 9) 23) = some (.inl none, SC) ∧ bootC (SB, SC) = true := by
  have h := boot_ok
  unfold boot at h
  split at h
  · next p hp =>
    split at hp
    · next SB hB =>
      split at hp
      · next SC hC => cases hp; exact ⟨SB, SC, hB, hC, h⟩
      · cases hp
    · cases hp
  · cases h
theorem Rb_S0 : Rb S0 := fun a k h => absurd rfl h
theorem R0_out {a k : Nat} (h : 146 ≤ a ∨ 23 ≤ k) : R0 a k = none := by
  have hl : REF0.length ≤ 146 := by decide +kernel
  have hk : (REF0.all fun l => decide (l.length ≤ 23)) = true := by decide +kernel
  unfold R0
  rcases Nat.lt_or_ge a REF0.length with ha | ha
  · have h2 := of_decide_eq_true (List.all_eq_true.mp hk _ (List.getElem_mem ha))
    rw [List.getD_eq_getElem?_getD, List.getD_eq_getElem?_getD, List.getElem?_eq_getElem ha, Option.getD_some, List.getElem?_eq_none (by omega)]; rfl
  · rw [List.getD_eq_getElem?_getD, List.getD_eq_getElem?_getD, List.getElem?_eq_none ha]; rfl
theorem ref_eq {S : AS} (hr : Rb S) (hL : lay S = LAY0) (h : ∀ a, a < 146 → ∀ k, k < 23 → gr S a k = R0 a k) : gr S = R0 := by
  have h4 : (LAY0.all fun q => decide (q.1 = 4 → q.2 ≤ 23)) = true := by decide +kernel
  have hn : LAY0.length = 146 := by decide +kernel
  funext a k
  by_cases e : a < 146 ∧ k < 23
  · exact h a e.1 k e.2
  · rw [R0_out (by omega)]
    cases hg : gr S a k with
    | none => rfl
    | some v =>
      obtain ⟨q, h1, h2⟩ := hr a k (by rw [hg]; exact fun q => nomatch q)
      rw [hL] at h1
      obtain ⟨ha, hq⟩ := List.getElem?_eq_some_iff.mp h1
      have h5 := of_decide_eq_true (List.all_eq_true.mp h4 q (by rw [← hq]; exact List.getElem_mem ha))
      omega
theorem boot_inv {S : AS} (F : ∀ q, q ∈ bootI → gi S q.1 q.2.1 = q.2.2) (j0 : gl S 136 0 = 0) (j1 : gl S 136 11 = 0) (j2 : gl S 136 308 = 0) (hin : ∀ r, r < 32 → in32 (gi S 131 r)) : INV S.1.1 S.1.2 := by
  have k0 : S.1.2 136 0 = 0 := j0
  have k1 : S.1.2 136 11 = 0 := j1
  have k2 : S.1.2 136 308 = 0 := j2
  refine ⟨S.1.2 136, fun _ _ => 0, 0, fun _ => 0, 0, 0, S.1.1 130 2, fun r c => bt (S.1.1 131 r) c, rfl, ⟨⟨(F (2, 2, 0) (by decide)).trans j0.symm, fun k hk => absurd hk (by omega)⟩, ⟨(F (5, 0, 6) (by decide)), (F (5, 4, 0) (by decide)).trans j1.symm, fun k hk => absurd hk (by omega)⟩, ⟨(F (9, 0, 3) (by decide)), (F (9, 4, 0) (by decide)).trans j2.symm, fun k hk => absurd hk (by omega)⟩⟩, ⟨⟨by omega, by omega, fun k hk => absurd hk (by omega), fun k hk => absurd hk (by omega)⟩, ⟨by omega, by omega, fun p hp => absurd hp (by omega)⟩, ⟨by omega, by omega, fun p hp => absurd hp (by omega)⟩⟩, ⟨0, by decide, (F (13, 1, 0) (by decide)), (F (13, 2, 0) (by decide)), by decide, fun q hq => absurd hq (by omega), fun q hq => ?_⟩, fun q k hq => absurd hq (by omega), (F (135, 3, 0) (by decide)), by decide, fun q hq => absurd hq (by omega), ⟨(F (118, 0, 6) (by decide)), (F (122, 0, 3) (by decide))⟩, ⟨(F (112, 1, 0) (by decide)), by decide, fun k hk => absurd hk (by omega)⟩, ⟨(F (135, 6, 0) (by decide)), by decide, fun k hk => absurd hk (by omega)⟩, (F (0, 7, -1) (by decide)).trans (F (135, 13, -1) (by decide)).symm, ⟨(F (130, 1, 0) (by decide)), rfl, fun r hr => ⟨hin r hr, fun c _ => rfl⟩⟩, by decide, (F (135, 22, 0) (by decide)), fun x hx => absurd hx (by omega)⟩
  rcases (show q = 0 ∨ q = 1 ∨ q = 2 ∨ q = 3 ∨ q = 4 ∨ q = 5 ∨ q = 6 ∨ q = 7 by omega) with rfl | rfl | rfl | rfl | rfl | rfl | rfl | rfl
  · exact ⟨(F (19, 0, 6) (by decide)), (F (23, 0, 3) (by decide))⟩
  · exact ⟨(F (31, 0, 6) (by decide)), (F (35, 0, 3) (by decide))⟩
  · exact ⟨(F (43, 0, 6) (by decide)), (F (47, 0, 3) (by decide))⟩
  · exact ⟨(F (55, 0, 6) (by decide)), (F (59, 0, 3) (by decide))⟩
  · exact ⟨(F (67, 0, 6) (by decide)), (F (71, 0, 3) (by decide))⟩
  · exact ⟨(F (79, 0, 6) (by decide)), (F (83, 0, 3) (by decide))⟩
  · exact ⟨(F (91, 0, 6) (by decide)), (F (95, 0, 3) (by decide))⟩
  · exact ⟨(F (103, 0, 6) (by decide)), (F (107, 0, 3) (by decide))⟩
set_option maxRecDepth 100000 in
theorem law_start (X : AX) (h72 : X.1 ≤ 3072) : Ev X k_L_law (0, [some (vr xScr), none, none, none, none, none, none], []) S0 (fun o T => o = .inl (some (vi 1)) ∧ T.2.2.1 ≤ 601024 ∧ T.2.2.2 ≤ 7293034) := by
  obtain ⟨SB, SC, hB, hC, hK⟩ := boot_facts
  have rB : Rb SB := run_Rb (X := X) _ _ _ _ _ _ (Rb_mk Rb_S0) (runZ_run X _ _ _ _ _ hB)
  have rC : Rb SC := run_Rb (X := X) _ _ _ _ _ _ (Rb_mk rB) (runZ_run X _ _ _ _ _ hC)
  have hB2 : Ev X k_X8_init (0, [some (vr 0)], []) (mk S0 (0, 8) 8) (fun o T => o = .inl none ∧ T = SB) := ⟨_, _, _, runZ_run X _ _ _ _ _ hB, rfl, rfl⟩
  have hC2 : Ev X k_X9_init (0, [some (vr 135)], []) (mk SB (0, 9) 23) (fun o T => o = .inl none ∧ T = SC) := ⟨_, _, _, runZ_run X _ _ _ _ _ hC, rfl, rfl⟩
  unfold bootC at hK
  simp only [Bool.and_eq_true, decide_eq_true_eq, List.all_eq_true, List.mem_range] at hK
  obtain ⟨hl, ⟨⟨⟨⟨⟨⟨hL, hcs⟩, hF⟩, hj0⟩, hj1⟩, hj2⟩, hin⟩, hrf⟩ := hK
  have hI := boot_inv hF hj0 hj1 hj2 hin
  have hg := ref_eq (Rb_mk rC) hL hrf
  have hl2 : (lay SC).length = 145 := by
    have h1 : (lay SC ++ [((2 : Nat), (1 : Nat))]).length = 146 := by
      have : lay SC ++ [((2 : Nat), (1 : Nat))] = LAY0 := hL
      rw [this]; decide +kernel
    rw [List.length_append] at h1
    have h2 : [((2 : Nat), (1 : Nat))].length = 1 := rfl
    omega
  have hq : (lay (mk SB (0, 9) 23))[135]? = some (0, mO k_X9_init) := by
    show (lay SB ++ [((0 : Nat), (9 : Nat))])[135]? = _
    rw [List.getElem?_append_right (by omega), hl]; rfl
  have hMS : mk SC (2, 1) 1 = MS (mk SC (2, 1) 1).1.1 (mk SC (2, 1) 1).1.2 146 16172 := by
    have h1 : ∀ S : AS, lay S = LAY0 → gr S = R0 → S.2.2 = (146, 16172) → S = MS S.1.1 S.1.2 146 16172 := by
      rintro ⟨⟨I, J⟩, ⟨A, B⟩, c⟩ q1 q2 q3
      have e1 : A = LAY0 := q1
      have e2 : B = R0 := q2
      have e3 : c = (146, 16172) := q3
      rw [e1, e2, e3]
    exact h1 _ hL hg hcs
  refine ev_n (fr' := (4, [some (vr xScr), none, none, none, none, none, none], [vr 0, vr 0])) (S' := mk S0 (0, 8) 8) 2 rfl ?_
  refine ev_cv (S' := SB) (v := none) rfl rfl rfl ⟨Nat.le_of_ble_eq_true rfl, Nat.le_of_ble_eq_true rfl⟩ hB2 ?_
  show Ev X k_L_law (7, [some (vr xScr), none, none, none, none, none, none], [vr 0]) SB _
  refine ev_n (fr' := (8, [some (vr xScr), some (vr 0), none, none, none, none, none], [])) (S' := SB) 1 rfl ?_
  refine ev_p (L' := [some (vr xScr), some (vr 0), none, none, none, none, none]) (st' := [vr 135]) (S' := mk SB (0, 9) 23) rfl ((if_pos ⟨rfl, by omega, by decide⟩).trans (by rw [hl]; rfl)) ?_
  refine ev_n (fr' := (12, [some (vr xScr), some (vr 0), none, none, none, none, none], [vr 135, vr 135])) (S' := mk SB (0, 9) 23) 1 rfl ?_
  refine ev_cv (j := k_X9_init) (as := [vr 135]) (rest := [vr 135]) (S' := SC) (v := none) rfl rfl (if_pos hq) ⟨Nat.le_of_ble_eq_true rfl, Nat.le_of_ble_eq_true rfl⟩ hC2 ?_
  show Ev X k_L_law (15, [some (vr xScr), some (vr 0), none, none, none, none, none], [vr 135]) SC _
  refine ev_n (fr' := (17, [some (vr xScr), some (vr 0), some (vr 135), none, none, none, none], [vi 1])) (S' := SC) 2 rfl ?_
  refine ev_p (L' := [some (vr xScr), some (vr 0), some (vr 135), none, none, none, none]) (st' := [vr 145]) (S' := mk SC (2, 1) 1) rfl ((if_pos ⟨by decide, by decide, by omega, Or.inr (Or.inl ⟨rfl, rfl⟩)⟩).trans (by rw [hl2]; rfl)) ?_
  refine ev_n (fr' := (23, [some (vr xScr), some (vr 0), some (vr 135), some (vr 145), some (vi 0), none, none], [])) (S' := mk SC (2, 1) 1) 3 rfl ?_
  rw [hMS]
  exact lp_law X h72 _ _ 146 16172 0 none none hI (by omega) (by omega)
