/-! PUBLIC QUESTIONS, reference: mirrors, topologies (printed by gen/g81.py) -/
theorem rb_isMirrored_x (X : AX) (I J : Nat → Nat → Int) (cc ss : Nat) {g : F1} (y z w : Int) (hg : J 136 = g) (hws : WS g) (hwp : WP g) (hwi : WI g) (h : ¬ ((0 ≤ y ∧ y < g 308) ∧ (0 ≤ z ∧ z < g 0))) : Ev X k_X9_isMirrored (0, [some (vr 135), some (vi y), some (vi z), some (vi w), none, none, none], []) (MS I J cc ss) (fun o T => o = .inl (some (vi 0)) ∧ T = MS (up2 I 135 4 1) J cc ss) := by
  have q0 := hws.1
  have q1 := hws.2.1
  have q2 := hwp.1
  have q3 := hwp.2.1
  have q4 := hwi.1
  have q5 := hwi.2.1
  refine ev_n (fr' := (4, [some (vr 135), some (vi y), some (vi z), some (vi w), none, none, none], [vi z, vi y, vr 135, vr 135])) (S' := MS I J cc ss) 4 rfl ?_
  refine ev_cv rfl rfl rfl ⟨Nat.le_of_ble_eq_true rfl, Nat.le_of_ble_eq_true rfl⟩ (sp_isOut1 X _ _ _ _ y z hg hws hwp hwi h) ?_
  show Ev X k_X9_isMirrored (7, [some (vr 135), some (vi y), some (vi z), some (vi w), none, none, none], [vi 1, vr 135]) (MS I J cc ss) _
  refine ev_n (fr' := (15, [some (vr 135), some (vi y), some (vi z), some (vi w), none, none, none], [vi 1, vr 135])) (S' := MS I J cc ss) 3 rfl ?_
  refine ev_n (fr' := (18, [some (vr 135), some (vi y), some (vi z), some (vi w), none, none, none], [])) (S' := MS (up2 I 135 4 1) J cc ss) 1 rfl ?_
  refine ev_n (fr' := (26, [some (vr 135), some (vi y), some (vi z), some (vi w), none, none, none], [vi 0])) (S' := MS (up2 I 135 4 1) J cc ss) 4 rfl ?_
  refine ev_r rfl rfl rfl ?_
  exact ⟨rfl, rfl⟩
theorem li_rm1 (X : AX) (I J : Nat → Nat → Int) (cc ss : Nat) {Q : (Option AV ⊕ Nat) → AS → Prop} {D : Nat → Nat → Bool} {P : Int} (hD : DM I D) (hW : I 135 17 = P) (hQ4 : 4 ≤ P ∧ P ≤ 32) (a1 a2 : Int) (y : Nat) (hy : (y : Int) < P) (x : Nat) (v6 : Option AV) (hxP : (x : Int) ≤ P) (hx : ∀ q, q < x → D y q = D (P.toNat - 1 - y) q) (KF : ∀ x : Nat, (x : Int) < P → D y x ≠ D (P.toNat - 1 - y) x → Q (.inl (some (vi 0))) (MS I J cc ss)) (K : ∀ (x : Nat) (v6 : Option AV), (x : Int) = P → (∀ q, q < x → D y q = D (P.toNat - 1 - y) q) → Ev X k_X9_isMirrored (127, [some (vr 135), some (vi a1), some (vi a2), some (vi 1), some (vi (y : Int)), some (vi (x : Int)), v6], []) (MS I J cc ss) Q) : Ev X k_X9_isMirrored (48, [some (vr 135), some (vi a1), some (vi a2), some (vi 1), some (vi (y : Int)), some (vi (x : Int)), v6], []) (MS I J cc ss) (Q) := by
  refine ev_n (fr' := (54, [some (vr 135), some (vi a1), some (vi a2), some (vi 1), some (vi (y : Int)), some (vi (x : Int)), v6], [vi (I 135 17), vi (x : Int)])) (S' := MS I J cc ss) 3 rfl ?_
  refine ev_eqi (hW) ?_
  show Ev X k_X9_isMirrored (54, [some (vr 135), some (vi a1), some (vi a2), some (vi 1), some (vi (y : Int)), some (vi (x : Int)), v6], [vi P, vi (x : Int)]) (MS I J cc ss) _
  refine ev_ic (c := .ge) (off := 73) rfl (by decide) (fun (g1 : P ≤ (x : Int)) => ?_) (fun (g1 : ¬ (P ≤ (x : Int))) => ?_)
  · show Ev X k_X9_isMirrored (127, [some (vr 135), some (vi a1), some (vi a2), some (vi 1), some (vi (y : Int)), some (vi (x : Int)), v6], []) (MS I J cc ss) _
    exact K x _ (by omega) hx
  · show Ev X k_X9_isMirrored (57, [some (vr 135), some (vi a1), some (vi a2), some (vi 1), some (vi (y : Int)), some (vi (x : Int)), v6], []) (MS I J cc ss) _
    refine ev_n (fr' := (67, [some (vr 135), some (vi a1), some (vi a2), some (vi 1), some (vi (y : Int)), some (vi (x : Int)), v6], [vi (I 135 17), vi 32])) (S' := MS I J cc ss) 5 rfl ?_
    refine ev_eqi (hW) ?_
    show Ev X k_X9_isMirrored (67, [some (vr 135), some (vi a1), some (vi a2), some (vi 1), some (vi (y : Int)), some (vi (x : Int)), v6], [vi P, vi 32]) (MS I J cc ss) _
    refine ev_n (fr' := (68, [some (vr 135), some (vi a1), some (vi a2), some (vi 1), some (vi (y : Int)), some (vi (x : Int)), v6], [vi 1, vi P, vi 32])) (S' := MS I J cc ss) 1 rfl ?_
    refine ev_sub (z := P - 1) rfl (by omega) (by omega) (by omega) ?_
    show Ev X k_X9_isMirrored (69, [some (vr 135), some (vi a1), some (vi a2), some (vi 1), some (vi (y : Int)), some (vi (x : Int)), v6], [vi (P - 1), vi 32]) (MS I J cc ss) _
    refine ev_n (fr' := (71, [some (vr 135), some (vi a1), some (vi a2), some (vi 1), some (vi (y : Int)), some (vi (x : Int)), v6], [vi (y : Int), vi (P - 1), vi 32])) (S' := MS I J cc ss) 1 rfl ?_
    refine ev_sub (z := P - (y : Int) - 1) rfl (by omega) (by omega) (by omega) ?_
    show Ev X k_X9_isMirrored (72, [some (vr 135), some (vi a1), some (vi a2), some (vi 1), some (vi (y : Int)), some (vi (x : Int)), v6], [vi (P - (y : Int) - 1), vi 32]) (MS I J cc ss) _
    refine ev_mul (z := 32 * P - 32 * (y : Int) - 32) rfl (by omega) (by omega) (by omega) ?_
    show Ev X k_X9_isMirrored (73, [some (vr 135), some (vi a1), some (vi a2), some (vi 1), some (vi (y : Int)), some (vi (x : Int)), v6], [vi (32 * P - 32 * (y : Int) - 32)]) (MS I J cc ss) _
    refine ev_n (fr' := (75, [some (vr 135), some (vi a1), some (vi a2), some (vi 1), some (vi (y : Int)), some (vi (x : Int)), v6], [vi (x : Int), vi (32 * P - 32 * (y : Int) - 32)])) (S' := MS I J cc ss) 1 rfl ?_
    refine ev_add (z := 32 * P + (x : Int) - 32 * (y : Int) - 32) rfl (by omega) (by omega) (by omega) ?_
    show Ev X k_X9_isMirrored (76, [some (vr 135), some (vi a1), some (vi a2), some (vi 1), some (vi (y : Int)), some (vi (x : Int)), v6], [vi (32 * P + (x : Int) - 32 * (y : Int) - 32)]) (MS I J cc ss) _
    refine ev_n (fr' := (104, [some (vr 135), some (vi a1), some (vi a2), some (vi 1), some (vi (y : Int)), some (vi (x : Int)), some (vi (32 * P + (x : Int) - 32 * (y : Int) - 32))], [vi (y : Int), vi 32, vr 140])) (S' := MS I J cc ss) 6 rfl ?_
    refine ev_mul (z := 32 * (y : Int)) rfl (by omega) (by omega) (by omega) ?_
    show Ev X k_X9_isMirrored (105, [some (vr 135), some (vi a1), some (vi a2), some (vi 1), some (vi (y : Int)), some (vi (x : Int)), some (vi (32 * P + (x : Int) - 32 * (y : Int) - 32))], [vi (32 * (y : Int)), vr 140]) (MS I J cc ss) _
    refine ev_n (fr' := (107, [some (vr 135), some (vi a1), some (vi a2), some (vi 1), some (vi (y : Int)), some (vi (x : Int)), some (vi (32 * P + (x : Int) - 32 * (y : Int) - 32))], [vi (x : Int), vi (32 * (y : Int)), vr 140])) (S' := MS I J cc ss) 1 rfl ?_
    refine ev_add (z := 32 * (y : Int) + (x : Int)) rfl (by omega) (by omega) (by omega) ?_
    show Ev X k_X9_isMirrored (108, [some (vr 135), some (vi a1), some (vi a2), some (vi 1), some (vi (y : Int)), some (vi (x : Int)), some (vi (32 * P + (x : Int) - 32 * (y : Int) - 32))], [vi (32 * (y : Int) + (x : Int)), vr 140]) (MS I J cc ss) _
    refine ev_baN (j := 32 * y + x) (z := (if D y x = true then 1 else 0)) rfl rfl (by omega) (by omega) (hD y x (by omega) (by omega)) ?_
    show Ev X k_X9_isMirrored (109, [some (vr 135), some (vi a1), some (vi a2), some (vi 1), some (vi (y : Int)), some (vi (x : Int)), some (vi (32 * P + (x : Int) - 32 * (y : Int) - 32))], [vi (if D y x = true then 1 else 0)]) (MS I J cc ss) _
    refine ev_n (fr' := (115, [some (vr 135), some (vi a1), some (vi a2), some (vi 1), some (vi (y : Int)), some (vi (x : Int)), some (vi (32 * P + (x : Int) - 32 * (y : Int) - 32))], [vi (32 * P + (x : Int) - 32 * (y : Int) - 32), vr 140, vi (if D y x = true then 1 else 0)])) (S' := MS I J cc ss) 3 rfl ?_
    refine ev_baN (j := (32 * P + (x : Int) - 32 * (y : Int) - 32).toNat) (z := (if D (P.toNat - 1 - y) x = true then 1 else 0)) rfl rfl (by omega) (by omega) (by rw [show (32 * P + (x : Int) - 32 * (y : Int) - 32).toNat = 32 * (P.toNat - 1 - y) + x by omega]; exact hD (P.toNat - 1 - y) x (by omega) (by omega)) ?_
    show Ev X k_X9_isMirrored (116, [some (vr 135), some (vi a1), some (vi a2), some (vi 1), some (vi (y : Int)), some (vi (x : Int)), some (vi (32 * P + (x : Int) - 32 * (y : Int) - 32))], [vi (if D (P.toNat - 1 - y) x = true then 1 else 0), vi (if D y x = true then 1 else 0)]) (MS I J cc ss) _
    refine ev_ic (c := .eq) (off := 5) rfl (by decide) (fun (g2 : (if D y x = true then 1 else 0) = (if D (P.toNat - 1 - y) x = true then 1 else 0)) => ?_) (fun (g2 : ¬ ((if D y x = true then 1 else 0) = (if D (P.toNat - 1 - y) x = true then 1 else 0))) => ?_)
    · show Ev X k_X9_isMirrored (121, [some (vr 135), some (vi a1), some (vi a2), some (vi 1), some (vi (y : Int)), some (vi (x : Int)), some (vi (32 * P + (x : Int) - 32 * (y : Int) - 32))], []) (MS I J cc ss) _
      refine ev_inc (z := (x : Int) + 1) rfl rfl (by omega) (by omega) (by omega) rfl ?_
      show Ev X k_X9_isMirrored (124, [some (vr 135), some (vi a1), some (vi a2), some (vi 1), some (vi (y : Int)), some (vi ((x : Int) + 1)), some (vi (32 * P + (x : Int) - 32 * (y : Int) - 32))], []) (MS I J cc ss) _
      refine ev_n (fr' := (48, [some (vr 135), some (vi a1), some (vi a2), some (vi 1), some (vi (y : Int)), some (vi ((x : Int) + 1)), some (vi (32 * P + (x : Int) - 32 * (y : Int) - 32))], [])) (S' := MS I J cc ss) 1 rfl ?_
      exact li_rm1 X _ _ cc ss hD hW hQ4 a1 a2 y hy (x + 1) _ (by omega) (nlt_succ hx (ite_eqB g2)) KF K
    · show Ev X k_X9_isMirrored (119, [some (vr 135), some (vi a1), some (vi a2), some (vi 1), some (vi (y : Int)), some (vi (x : Int)), some (vi (32 * P + (x : Int) - 32 * (y : Int) - 32))], []) (MS I J cc ss) _
      refine ev_n (fr' := (120, [some (vr 135), some (vi a1), some (vi a2), some (vi 1), some (vi (y : Int)), some (vi (x : Int)), some (vi (32 * P + (x : Int) - 32 * (y : Int) - 32))], [vi 0])) (S' := MS I J cc ss) 1 rfl ?_
      refine ev_r rfl rfl rfl ?_
      exact KF x (by omega) (fun h => g2 (by rw [h]))
termination_by 40 - x
decreasing_by all_goals omega
theorem lp_rm1 (X : AX) (I J : Nat → Nat → Int) (cc ss : Nat) {D : Nat → Nat → Bool} {P : Int} (hD : DM I D) (hW : I 135 17 = P) (hQ4 : 4 ≤ P ∧ P ≤ 32) (a1 a2 : Int) (y : Nat) (v5 v6 : Option AV) (hy : (y : Int) ≤ P) (hq : ∀ q, q < y → ∀ x : Nat, (x : Int) < P → D q x = D (P.toNat - 1 - q) x) : Ev X k_X9_isMirrored (36, [some (vr 135), some (vi a1), some (vi a2), some (vi 1), some (vi (y : Int)), v5, v6], []) (MS I J cc ss) (fun o T => o = .inl (some (vi (if mirB D P.toNat true = true then 1 else 0))) ∧ T = MS I J cc ss) := by
  refine ev_n (fr' := (42, [some (vr 135), some (vi a1), some (vi a2), some (vi 1), some (vi (y : Int)), v5, v6], [vi (I 135 17), vi (y : Int)])) (S' := MS I J cc ss) 3 rfl ?_
  refine ev_eqi (hW) ?_
  show Ev X k_X9_isMirrored (42, [some (vr 135), some (vi a1), some (vi a2), some (vi 1), some (vi (y : Int)), v5, v6], [vi P, vi (y : Int)]) (MS I J cc ss) _
  refine ev_ic (c := .ge) (off := 91) rfl (by decide) (fun (g1 : P ≤ (y : Int)) => ?_) (fun (g1 : ¬ (P ≤ (y : Int))) => ?_)
  · show Ev X k_X9_isMirrored (133, [some (vr 135), some (vi a1), some (vi a2), some (vi 1), some (vi (y : Int)), v5, v6], []) (MS I J cc ss) _
    refine ev_n (fr' := (134, [some (vr 135), some (vi a1), some (vi a2), some (vi 1), some (vi (y : Int)), v5, v6], [vi 1])) (S' := MS I J cc ss) 1 rfl ?_
    refine ev_r rfl rfl rfl ?_
    exact ⟨congrArg (fun z => Sum.inl (some (vi z))) (if_pos (mir_true.mpr (fun y x hy hx => by rw [if_pos rfl]; exact hq y (by omega) x (by omega)))).symm, rfl⟩
  · show Ev X k_X9_isMirrored (45, [some (vr 135), some (vi a1), some (vi a2), some (vi 1), some (vi (y : Int)), v5, v6], []) (MS I J cc ss) _
    refine ev_n (fr' := (48, [some (vr 135), some (vi a1), some (vi a2), some (vi 1), some (vi (y : Int)), some (vi 0), v6], [])) (S' := MS I J cc ss) 2 rfl ?_
    refine li_rm1 X _ _ cc ss hD hW hQ4 a1 a2 y (by omega) 0 _ (by omega) (fun q h => absurd h (by omega)) (fun x hx hne => ⟨congrArg (fun z => Sum.inl (some (vi z))) (if_neg (fun h => hne (by have := mir_true.mp h y x (by omega) (by omega); rwa [if_pos rfl] at this))).symm, rfl⟩) (fun x v6 hjk hj => ?_)
    show Ev X k_X9_isMirrored (127, [some (vr 135), some (vi a1), some (vi a2), some (vi 1), some (vi (y : Int)), some (vi (x : Int)), v6], []) (MS I J cc ss) _
    refine ev_inc (z := (y : Int) + 1) rfl rfl (by omega) (by omega) (by omega) rfl ?_
    show Ev X k_X9_isMirrored (130, [some (vr 135), some (vi a1), some (vi a2), some (vi 1), some (vi ((y : Int) + 1)), some (vi (x : Int)), v6], []) (MS I J cc ss) _
    refine ev_n (fr' := (36, [some (vr 135), some (vi a1), some (vi a2), some (vi 1), some (vi ((y : Int) + 1)), some (vi (x : Int)), v6], [])) (S' := MS I J cc ss) 1 rfl ?_
    exact lp_rm1 X _ _ cc ss hD hW hQ4 a1 a2 (y + 1) _ _ (by omega) (nlt_succ hq (fun x hx => hj x (by omega)))
termination_by 40 - y
decreasing_by all_goals omega
theorem rb_isMirrored_1 (X : AX) (I J : Nat → Nat → Int) (cc ss : Nat) {g : F1} (i k : Nat) (hg : J 136 = g) (hws : WS g) (hwp : WP g) (hwi : WI g) (hi : (i : Int) < g 308) (hk : (k : Int) < g 0) : Ev X k_X9_isMirrored (0, [some (vr 135), some (vi (i : Int)), some (vi (k : Int)), some (vi 1), none, none, none], []) (MS I J cc ss) (PV cc ss (some (vi (if mirB (icF g i (g (2 * k + 1)) (g (2 * k + 2))) (g (2 * k + 1)).toNat true = true then 1 else 0))) (fun I' J' => J' = J ∧ scrM (up2 I 135 4 0) I')) := by
  have q0 := hws.1
  have q1 := hws.2.1
  have q2 := hwp.1
  have q3 := hwp.2.1
  have q4 := hwi.1
  have q5 := hwi.2.1
  have hr := hws.2.2.1 k hk
  have hF := scrM.refl (up2 I 135 4 0)
  refine ev_n (fr' := (4, [some (vr 135), some (vi (i : Int)), some (vi (k : Int)), some (vi 1), none, none, none], [vi (k : Int), vi (i : Int), vr 135, vr 135])) (S' := MS I J cc ss) 4 rfl ?_
  refine ev_cv rfl rfl rfl ⟨Nat.le_of_ble_eq_true rfl, Nat.le_of_ble_eq_true rfl⟩ (sp_isOut0 X _ _ _ _ i k hg hws hwp hwi (by omega) (by omega)) ?_
  show Ev X k_X9_isMirrored (7, [some (vr 135), some (vi (i : Int)), some (vi (k : Int)), some (vi 1), none, none, none], [vi 0, vr 135]) (MS I J cc ss) _
  refine ev_n (fr' := (15, [some (vr 135), some (vi (i : Int)), some (vi (k : Int)), some (vi 1), none, none, none], [vi 0, vr 135])) (S' := MS I J cc ss) 2 rfl ?_
  refine ev_n (fr' := (18, [some (vr 135), some (vi (i : Int)), some (vi (k : Int)), some (vi 1), none, none, none], [])) (S' := MS (up2 I 135 4 0) J cc ss) 1 rfl ?_
  refine ev_n (fr' := (30, [some (vr 135), some (vi (i : Int)), some (vi (k : Int)), some (vi 1), none, none, none], [vi (k : Int), vi (i : Int), vr 135])) (S' := MS (up2 I 135 4 0) J cc ss) 6 rfl ?_
  refine ev_cp rfl rfl rfl ⟨Nat.le_of_ble_eq_true rfl, Nat.le_of_ble_eq_true rfl⟩ (sp_drawsAtW X _ _ _ _ i k hg hws hwp hwi (by omega) (by omega)) (fun I1 J q2 => ?_)
  obtain ⟨rfl, r1, hW, hD⟩ := q2
  show Ev X k_X9_isMirrored (33, [some (vr 135), some (vi (i : Int)), some (vi (k : Int)), some (vi 1), none, none, none], []) (MS I1 J cc ss) _
  have hF := hF.trans r1.scr
  refine ev_n (fr' := (36, [some (vr 135), some (vi (i : Int)), some (vi (k : Int)), some (vi 1), some (vi 0), none, none], [])) (S' := MS I1 J cc ss) 2 rfl ?_
  refine (lp_rm1 X _ _ cc ss hD hW (by omega) _ _ 0 _ _ (by omega) (fun q h => absurd h (by omega))).mono ?_
  rintro o T ⟨rfl, rfl⟩
  exact ⟨_, _, rfl, rfl, rfl, hF⟩
theorem li_rm0 (X : AX) (I J : Nat → Nat → Int) (cc ss : Nat) {Q : (Option AV ⊕ Nat) → AS → Prop} {D : Nat → Nat → Bool} {P : Int} (hD : DM I D) (hW : I 135 17 = P) (hQ4 : 4 ≤ P ∧ P ≤ 32) (a1 a2 : Int) (y : Nat) (hy : (y : Int) < P) (x : Nat) (v6 : Option AV) (hxP : (x : Int) ≤ P) (hx : ∀ q, q < x → D y q = D y (P.toNat - 1 - q)) (KF : ∀ x : Nat, (x : Int) < P → D y x ≠ D y (P.toNat - 1 - x) → Q (.inl (some (vi 0))) (MS I J cc ss)) (K : ∀ (x : Nat) (v6 : Option AV), (x : Int) = P → (∀ q, q < x → D y q = D y (P.toNat - 1 - q)) → Ev X k_X9_isMirrored (127, [some (vr 135), some (vi a1), some (vi a2), some (vi 0), some (vi (y : Int)), some (vi (x : Int)), v6], []) (MS I J cc ss) Q) : Ev X k_X9_isMirrored (48, [some (vr 135), some (vi a1), some (vi a2), some (vi 0), some (vi (y : Int)), some (vi (x : Int)), v6], []) (MS I J cc ss) (Q) := by
  refine ev_n (fr' := (54, [some (vr 135), some (vi a1), some (vi a2), some (vi 0), some (vi (y : Int)), some (vi (x : Int)), v6], [vi (I 135 17), vi (x : Int)])) (S' := MS I J cc ss) 3 rfl ?_
  refine ev_eqi (hW) ?_
  show Ev X k_X9_isMirrored (54, [some (vr 135), some (vi a1), some (vi a2), some (vi 0), some (vi (y : Int)), some (vi (x : Int)), v6], [vi P, vi (x : Int)]) (MS I J cc ss) _
  refine ev_ic (c := .ge) (off := 73) rfl (by decide) (fun (g1 : P ≤ (x : Int)) => ?_) (fun (g1 : ¬ (P ≤ (x : Int))) => ?_)
  · show Ev X k_X9_isMirrored (127, [some (vr 135), some (vi a1), some (vi a2), some (vi 0), some (vi (y : Int)), some (vi (x : Int)), v6], []) (MS I J cc ss) _
    exact K x _ (by omega) hx
  · show Ev X k_X9_isMirrored (57, [some (vr 135), some (vi a1), some (vi a2), some (vi 0), some (vi (y : Int)), some (vi (x : Int)), v6], []) (MS I J cc ss) _
    refine ev_n (fr' := (83, [some (vr 135), some (vi a1), some (vi a2), some (vi 0), some (vi (y : Int)), some (vi (x : Int)), v6], [vi (y : Int), vi 32])) (S' := MS I J cc ss) 4 rfl ?_
    refine ev_mul (z := 32 * (y : Int)) rfl (by omega) (by omega) (by omega) ?_
    show Ev X k_X9_isMirrored (84, [some (vr 135), some (vi a1), some (vi a2), some (vi 0), some (vi (y : Int)), some (vi (x : Int)), v6], [vi (32 * (y : Int))]) (MS I J cc ss) _
    refine ev_n (fr' := (88, [some (vr 135), some (vi a1), some (vi a2), some (vi 0), some (vi (y : Int)), some (vi (x : Int)), v6], [vi (I 135 17), vi (32 * (y : Int))])) (S' := MS I J cc ss) 2 rfl ?_
    refine ev_eqi (hW) ?_
    show Ev X k_X9_isMirrored (88, [some (vr 135), some (vi a1), some (vi a2), some (vi 0), some (vi (y : Int)), some (vi (x : Int)), v6], [vi P, vi (32 * (y : Int))]) (MS I J cc ss) _
    refine ev_add (z := 32 * (y : Int) + P) rfl (by omega) (by omega) (by omega) ?_
    show Ev X k_X9_isMirrored (89, [some (vr 135), some (vi a1), some (vi a2), some (vi 0), some (vi (y : Int)), some (vi (x : Int)), v6], [vi (32 * (y : Int) + P)]) (MS I J cc ss) _
    refine ev_n (fr' := (90, [some (vr 135), some (vi a1), some (vi a2), some (vi 0), some (vi (y : Int)), some (vi (x : Int)), v6], [vi 1, vi (32 * (y : Int) + P)])) (S' := MS I J cc ss) 1 rfl ?_
    refine ev_sub (z := 32 * (y : Int) + P - 1) rfl (by omega) (by omega) (by omega) ?_
    show Ev X k_X9_isMirrored (91, [some (vr 135), some (vi a1), some (vi a2), some (vi 0), some (vi (y : Int)), some (vi (x : Int)), v6], [vi (32 * (y : Int) + P - 1)]) (MS I J cc ss) _
    refine ev_n (fr' := (93, [some (vr 135), some (vi a1), some (vi a2), some (vi 0), some (vi (y : Int)), some (vi (x : Int)), v6], [vi (x : Int), vi (32 * (y : Int) + P - 1)])) (S' := MS I J cc ss) 1 rfl ?_
    refine ev_sub (z := 32 * (y : Int) + P - (x : Int) - 1) rfl (by omega) (by omega) (by omega) ?_
    show Ev X k_X9_isMirrored (94, [some (vr 135), some (vi a1), some (vi a2), some (vi 0), some (vi (y : Int)), some (vi (x : Int)), v6], [vi (32 * (y : Int) + P - (x : Int) - 1)]) (MS I J cc ss) _
    refine ev_n (fr' := (104, [some (vr 135), some (vi a1), some (vi a2), some (vi 0), some (vi (y : Int)), some (vi (x : Int)), some (vi (32 * (y : Int) + P - (x : Int) - 1))], [vi (y : Int), vi 32, vr 140])) (S' := MS I J cc ss) 5 rfl ?_
    refine ev_mul (z := 32 * (y : Int)) rfl (by omega) (by omega) (by omega) ?_
    show Ev X k_X9_isMirrored (105, [some (vr 135), some (vi a1), some (vi a2), some (vi 0), some (vi (y : Int)), some (vi (x : Int)), some (vi (32 * (y : Int) + P - (x : Int) - 1))], [vi (32 * (y : Int)), vr 140]) (MS I J cc ss) _
    refine ev_n (fr' := (107, [some (vr 135), some (vi a1), some (vi a2), some (vi 0), some (vi (y : Int)), some (vi (x : Int)), some (vi (32 * (y : Int) + P - (x : Int) - 1))], [vi (x : Int), vi (32 * (y : Int)), vr 140])) (S' := MS I J cc ss) 1 rfl ?_
    refine ev_add (z := 32 * (y : Int) + (x : Int)) rfl (by omega) (by omega) (by omega) ?_
    show Ev X k_X9_isMirrored (108, [some (vr 135), some (vi a1), some (vi a2), some (vi 0), some (vi (y : Int)), some (vi (x : Int)), some (vi (32 * (y : Int) + P - (x : Int) - 1))], [vi (32 * (y : Int) + (x : Int)), vr 140]) (MS I J cc ss) _
    refine ev_baN (j := 32 * y + x) (z := (if D y x = true then 1 else 0)) rfl rfl (by omega) (by omega) (hD y x (by omega) (by omega)) ?_
    show Ev X k_X9_isMirrored (109, [some (vr 135), some (vi a1), some (vi a2), some (vi 0), some (vi (y : Int)), some (vi (x : Int)), some (vi (32 * (y : Int) + P - (x : Int) - 1))], [vi (if D y x = true then 1 else 0)]) (MS I J cc ss) _
    refine ev_n (fr' := (115, [some (vr 135), some (vi a1), some (vi a2), some (vi 0), some (vi (y : Int)), some (vi (x : Int)), some (vi (32 * (y : Int) + P - (x : Int) - 1))], [vi (32 * (y : Int) + P - (x : Int) - 1), vr 140, vi (if D y x = true then 1 else 0)])) (S' := MS I J cc ss) 3 rfl ?_
    refine ev_baN (j := (32 * (y : Int) + P - (x : Int) - 1).toNat) (z := (if D y (P.toNat - 1 - x) = true then 1 else 0)) rfl rfl (by omega) (by omega) (by rw [show (32 * (y : Int) + P - (x : Int) - 1).toNat = 32 * y + (P.toNat - 1 - x) by omega]; exact hD y (P.toNat - 1 - x) (by omega) (by omega)) ?_
    show Ev X k_X9_isMirrored (116, [some (vr 135), some (vi a1), some (vi a2), some (vi 0), some (vi (y : Int)), some (vi (x : Int)), some (vi (32 * (y : Int) + P - (x : Int) - 1))], [vi (if D y (P.toNat - 1 - x) = true then 1 else 0), vi (if D y x = true then 1 else 0)]) (MS I J cc ss) _
    refine ev_ic (c := .eq) (off := 5) rfl (by decide) (fun (g2 : (if D y x = true then 1 else 0) = (if D y (P.toNat - 1 - x) = true then 1 else 0)) => ?_) (fun (g2 : ¬ ((if D y x = true then 1 else 0) = (if D y (P.toNat - 1 - x) = true then 1 else 0))) => ?_)
    · show Ev X k_X9_isMirrored (121, [some (vr 135), some (vi a1), some (vi a2), some (vi 0), some (vi (y : Int)), some (vi (x : Int)), some (vi (32 * (y : Int) + P - (x : Int) - 1))], []) (MS I J cc ss) _
      refine ev_inc (z := (x : Int) + 1) rfl rfl (by omega) (by omega) (by omega) rfl ?_
      show Ev X k_X9_isMirrored (124, [some (vr 135), some (vi a1), some (vi a2), some (vi 0), some (vi (y : Int)), some (vi ((x : Int) + 1)), some (vi (32 * (y : Int) + P - (x : Int) - 1))], []) (MS I J cc ss) _
      refine ev_n (fr' := (48, [some (vr 135), some (vi a1), some (vi a2), some (vi 0), some (vi (y : Int)), some (vi ((x : Int) + 1)), some (vi (32 * (y : Int) + P - (x : Int) - 1))], [])) (S' := MS I J cc ss) 1 rfl ?_
      exact li_rm0 X _ _ cc ss hD hW hQ4 a1 a2 y hy (x + 1) _ (by omega) (nlt_succ hx (ite_eqB g2)) KF K
    · show Ev X k_X9_isMirrored (119, [some (vr 135), some (vi a1), some (vi a2), some (vi 0), some (vi (y : Int)), some (vi (x : Int)), some (vi (32 * (y : Int) + P - (x : Int) - 1))], []) (MS I J cc ss) _
      refine ev_n (fr' := (120, [some (vr 135), some (vi a1), some (vi a2), some (vi 0), some (vi (y : Int)), some (vi (x : Int)), some (vi (32 * (y : Int) + P - (x : Int) - 1))], [vi 0])) (S' := MS I J cc ss) 1 rfl ?_
      refine ev_r rfl rfl rfl ?_
      exact KF x (by omega) (fun h => g2 (by rw [h]))
termination_by 40 - x
decreasing_by all_goals omega
theorem lp_rm0 (X : AX) (I J : Nat → Nat → Int) (cc ss : Nat) {D : Nat → Nat → Bool} {P : Int} (hD : DM I D) (hW : I 135 17 = P) (hQ4 : 4 ≤ P ∧ P ≤ 32) (a1 a2 : Int) (y : Nat) (v5 v6 : Option AV) (hy : (y : Int) ≤ P) (hq : ∀ q, q < y → ∀ x : Nat, (x : Int) < P → D q x = D q (P.toNat - 1 - x)) : Ev X k_X9_isMirrored (36, [some (vr 135), some (vi a1), some (vi a2), some (vi 0), some (vi (y : Int)), v5, v6], []) (MS I J cc ss) (fun o T => o = .inl (some (vi (if mirB D P.toNat false = true then 1 else 0))) ∧ T = MS I J cc ss) := by
  refine ev_n (fr' := (42, [some (vr 135), some (vi a1), some (vi a2), some (vi 0), some (vi (y : Int)), v5, v6], [vi (I 135 17), vi (y : Int)])) (S' := MS I J cc ss) 3 rfl ?_
  refine ev_eqi (hW) ?_
  show Ev X k_X9_isMirrored (42, [some (vr 135), some (vi a1), some (vi a2), some (vi 0), some (vi (y : Int)), v5, v6], [vi P, vi (y : Int)]) (MS I J cc ss) _
  refine ev_ic (c := .ge) (off := 91) rfl (by decide) (fun (g1 : P ≤ (y : Int)) => ?_) (fun (g1 : ¬ (P ≤ (y : Int))) => ?_)
  · show Ev X k_X9_isMirrored (133, [some (vr 135), some (vi a1), some (vi a2), some (vi 0), some (vi (y : Int)), v5, v6], []) (MS I J cc ss) _
    refine ev_n (fr' := (134, [some (vr 135), some (vi a1), some (vi a2), some (vi 0), some (vi (y : Int)), v5, v6], [vi 1])) (S' := MS I J cc ss) 1 rfl ?_
    refine ev_r rfl rfl rfl ?_
    exact ⟨congrArg (fun z => Sum.inl (some (vi z))) (if_pos (mir_true.mpr (fun y x hy hx => by rw [if_neg (by decide)]; exact hq y (by omega) x (by omega)))).symm, rfl⟩
  · show Ev X k_X9_isMirrored (45, [some (vr 135), some (vi a1), some (vi a2), some (vi 0), some (vi (y : Int)), v5, v6], []) (MS I J cc ss) _
    refine ev_n (fr' := (48, [some (vr 135), some (vi a1), some (vi a2), some (vi 0), some (vi (y : Int)), some (vi 0), v6], [])) (S' := MS I J cc ss) 2 rfl ?_
    refine li_rm0 X _ _ cc ss hD hW hQ4 a1 a2 y (by omega) 0 _ (by omega) (fun q h => absurd h (by omega)) (fun x hx hne => ⟨congrArg (fun z => Sum.inl (some (vi z))) (if_neg (fun h => hne (by have := mir_true.mp h y x (by omega) (by omega); rwa [if_neg (by decide)] at this))).symm, rfl⟩) (fun x v6 hjk hj => ?_)
    show Ev X k_X9_isMirrored (127, [some (vr 135), some (vi a1), some (vi a2), some (vi 0), some (vi (y : Int)), some (vi (x : Int)), v6], []) (MS I J cc ss) _
    refine ev_inc (z := (y : Int) + 1) rfl rfl (by omega) (by omega) (by omega) rfl ?_
    show Ev X k_X9_isMirrored (130, [some (vr 135), some (vi a1), some (vi a2), some (vi 0), some (vi ((y : Int) + 1)), some (vi (x : Int)), v6], []) (MS I J cc ss) _
    refine ev_n (fr' := (36, [some (vr 135), some (vi a1), some (vi a2), some (vi 0), some (vi ((y : Int) + 1)), some (vi (x : Int)), v6], [])) (S' := MS I J cc ss) 1 rfl ?_
    exact lp_rm0 X _ _ cc ss hD hW hQ4 a1 a2 (y + 1) _ _ (by omega) (nlt_succ hq (fun x hx => hj x (by omega)))
termination_by 40 - y
decreasing_by all_goals omega
theorem rb_isMirrored_0 (X : AX) (I J : Nat → Nat → Int) (cc ss : Nat) {g : F1} (i k : Nat) (hg : J 136 = g) (hws : WS g) (hwp : WP g) (hwi : WI g) (hi : (i : Int) < g 308) (hk : (k : Int) < g 0) : Ev X k_X9_isMirrored (0, [some (vr 135), some (vi (i : Int)), some (vi (k : Int)), some (vi 0), none, none, none], []) (MS I J cc ss) (PV cc ss (some (vi (if mirB (icF g i (g (2 * k + 1)) (g (2 * k + 2))) (g (2 * k + 1)).toNat false = true then 1 else 0))) (fun I' J' => J' = J ∧ scrM (up2 I 135 4 0) I')) := by
  have q0 := hws.1
  have q1 := hws.2.1
  have q2 := hwp.1
  have q3 := hwp.2.1
  have q4 := hwi.1
  have q5 := hwi.2.1
  have hr := hws.2.2.1 k hk
  have hF := scrM.refl (up2 I 135 4 0)
  refine ev_n (fr' := (4, [some (vr 135), some (vi (i : Int)), some (vi (k : Int)), some (vi 0), none, none, none], [vi (k : Int), vi (i : Int), vr 135, vr 135])) (S' := MS I J cc ss) 4 rfl ?_
  refine ev_cv rfl rfl rfl ⟨Nat.le_of_ble_eq_true rfl, Nat.le_of_ble_eq_true rfl⟩ (sp_isOut0 X _ _ _ _ i k hg hws hwp hwi (by omega) (by omega)) ?_
  show Ev X k_X9_isMirrored (7, [some (vr 135), some (vi (i : Int)), some (vi (k : Int)), some (vi 0), none, none, none], [vi 0, vr 135]) (MS I J cc ss) _
  refine ev_n (fr' := (15, [some (vr 135), some (vi (i : Int)), some (vi (k : Int)), some (vi 0), none, none, none], [vi 0, vr 135])) (S' := MS I J cc ss) 2 rfl ?_
  refine ev_n (fr' := (18, [some (vr 135), some (vi (i : Int)), some (vi (k : Int)), some (vi 0), none, none, none], [])) (S' := MS (up2 I 135 4 0) J cc ss) 1 rfl ?_
  refine ev_n (fr' := (30, [some (vr 135), some (vi (i : Int)), some (vi (k : Int)), some (vi 0), none, none, none], [vi (k : Int), vi (i : Int), vr 135])) (S' := MS (up2 I 135 4 0) J cc ss) 6 rfl ?_
  refine ev_cp rfl rfl rfl ⟨Nat.le_of_ble_eq_true rfl, Nat.le_of_ble_eq_true rfl⟩ (sp_drawsAtW X _ _ _ _ i k hg hws hwp hwi (by omega) (by omega)) (fun I1 J q2 => ?_)
  obtain ⟨rfl, r1, hW, hD⟩ := q2
  show Ev X k_X9_isMirrored (33, [some (vr 135), some (vi (i : Int)), some (vi (k : Int)), some (vi 0), none, none, none], []) (MS I1 J cc ss) _
  have hF := hF.trans r1.scr
  refine ev_n (fr' := (36, [some (vr 135), some (vi (i : Int)), some (vi (k : Int)), some (vi 0), some (vi 0), none, none], [])) (S' := MS I1 J cc ss) 2 rfl ?_
  refine (lp_rm0 X _ _ cc ss hD hW (by omega) _ _ 0 _ _ (by omega) (fun q h => absurd h (by omega))).mono ?_
  rintro o T ⟨rfl, rfl⟩
  exact ⟨_, _, rfl, rfl, rfl, hF⟩
theorem sp_rtopZ (X : AX) (I J : Nat → Nat → Int) (cc ss : Nat) {g : F1} (i : Nat) (P e : Int) (hg : J 136 = g) (hwp : WP g) (hwi : WI g) (hQ : 0 ≤ P ∧ P ≤ 32) (he : -2 ≤ e ∧ e ≤ 2) (hi : (i : Int) < g 308) : Ev X k_X9_topology (0, [some (vr 135), some (vi (i : Int)), some (vi P), some (vi e)], []) (MS I J cc ss) (PZ cc ss (fun z I' J' => J' = J ∧ scrM I I' ∧ z = tpF g i P.toNat e)) := by
  obtain ⟨n, rfl⟩ : ∃ n : Nat, P = n := ⟨P.toNat, by omega⟩
  rw [Int.toNat_natCast]
  exact sp_topology X I J cc ss i n e hg hwp hwi (by omega) he hi
theorem lp_rkt (X : AX) (I J : Nat → Nat → Int) (cc ss : Nat) {g : F1} (I0 : F2) (i : Nat) (hg : J 136 = g) (hws : WS g) (hwp : WP g) (hwi : WI g) (hi : (i : Int) < g 308) (h4 : I0 135 4 = 0) (k : Nat) (hk : 1 ≤ k) (hq : ∀ q, q < k → tsF g i q = tsF g i 0) (hF : scrM I0 I) : Ev X k_X9_keepsTopology (19, [some (vr 135), some (vi (i : Int)), some (vi (k : Int))], []) (MS I J cc ss) (PV cc ss (some (vi (if ktB g i = true then 1 else 0))) (fun I' J' => J' = J ∧ scrM I0 I')) := by
  have q0 := hws.1
  have q1 := hws.2.1
  have q2 := hwp.1
  have q3 := hwp.2.1
  have q4 := hwi.1
  have q5 := hwi.2.1
  refine ev_n (fr' := (23, [some (vr 135), some (vi (i : Int)), some (vi (k : Int))], [vi (I 135 4)])) (S' := MS I J cc ss) 2 rfl ?_
  refine ev_eqi ((hF.2 4 (by decide) (by decide)).trans h4) ?_
  show Ev X k_X9_keepsTopology (23, [some (vr 135), some (vi (i : Int)), some (vi (k : Int))], [vi 0]) (MS I J cc ss) _
  refine ev_n (fr' := (33, [some (vr 135), some (vi (i : Int)), some (vi (k : Int))], [vi 0, vr 136, vl (k : Int)])) (S' := MS I J cc ss) 6 rfl ?_
  refine ev_laN (j := 0) (z := (g 0)) rfl rfl (by omega) (by omega) (congrFun hg _) ?_
  show Ev X k_X9_keepsTopology (34, [some (vr 135), some (vi (i : Int)), some (vi (k : Int))], [vl (g 0), vl (k : Int)]) (MS I J cc ss) _
  refine ev_lc (c := .ge) (off := 44) rfl rfl (by decide) (fun (g1 : (g 0) ≤ (k : Int)) => ?_) (fun (g1 : ¬ ((g 0) ≤ (k : Int))) => ?_)
  · show Ev X k_X9_keepsTopology (79, [some (vr 135), some (vi (i : Int)), some (vi (k : Int))], []) (MS I J cc ss) _
    refine ev_n (fr' := (83, [some (vr 135), some (vi (i : Int)), some (vi (k : Int))], [vi (I 135 4)])) (S' := MS I J cc ss) 2 rfl ?_
    refine ev_eqi ((hF.2 4 (by decide) (by decide)).trans h4) ?_
    show Ev X k_X9_keepsTopology (83, [some (vr 135), some (vi (i : Int)), some (vi (k : Int))], [vi 0]) (MS I J cc ss) _
    refine ev_n (fr' := (91, [some (vr 135), some (vi (i : Int)), some (vi (k : Int))], [vi 1])) (S' := MS I J cc ss) 3 rfl ?_
    refine ev_r rfl rfl rfl ?_
    exact ⟨_, _, rfl, congrArg (fun z => Sum.inl (some (vi z))) (if_pos (kt_true.mpr (fun q hq2 => hq q (by omega)))).symm, rfl, hF⟩
  · show Ev X k_X9_keepsTopology (38, [some (vr 135), some (vi (i : Int)), some (vi (k : Int))], []) (MS I J cc ss) _
    have hr := hws.2.2.1 k (by omega)
    have hr0 := hws.2.2.1 0 (by omega)
    refine ev_n (fr' := (42, [some (vr 135), some (vi (i : Int)), some (vi (k : Int))], [vi (k : Int), vr 135, vi (i : Int), vr 135])) (S' := MS I J cc ss) 4 rfl ?_
    refine ev_cv rfl rfl rfl ⟨Nat.le_of_ble_eq_true rfl, Nat.le_of_ble_eq_true rfl⟩ (sp_pixelsOf_r X _ _ _ _ k hg hws (by omega)) ?_
    show Ev X k_X9_keepsTopology (45, [some (vr 135), some (vi (i : Int)), some (vi (k : Int))], [vi (g (2 * k + 1)), vi (i : Int), vr 135]) (MS I J cc ss) _
    refine ev_n (fr' := (47, [some (vr 135), some (vi (i : Int)), some (vi (k : Int))], [vi (k : Int), vr 135, vi (g (2 * k + 1)), vi (i : Int), vr 135])) (S' := MS I J cc ss) 2 rfl ?_
    refine ev_cv rfl rfl rfl ⟨Nat.le_of_ble_eq_true rfl, Nat.le_of_ble_eq_true rfl⟩ (sp_extraOf_r X _ _ _ _ k hg hws (by omega)) ?_
    show Ev X k_X9_keepsTopology (50, [some (vr 135), some (vi (i : Int)), some (vi (k : Int))], [vi (g (2 * k + 2)), vi (g (2 * k + 1)), vi (i : Int), vr 135]) (MS I J cc ss) _
    refine ev_cz rfl rfl rfl ⟨Nat.le_of_ble_eq_true rfl, Nat.le_of_ble_eq_true rfl⟩ (sp_rtopZ X _ _ _ _ i (g (2 * k + 1)) (g (2 * k + 2)) hg hwp hwi (by omega) (by omega) (by omega)) (fun zI1 I1 J q2 => ?_)
    obtain ⟨rfl, rI1, hzI1⟩ := q2
    show Ev X k_X9_keepsTopology (53, [some (vr 135), some (vi (i : Int)), some (vi (k : Int))], [vi zI1]) (MS I1 J cc ss) _
    rw [hzI1]
    have hF := hF.trans rI1
    refine ev_n (fr' := (57, [some (vr 135), some (vi (i : Int)), some (vi (k : Int))], [vi 0, vr 135, vi (i : Int), vr 135, vi (tpF g i (g (2 * k + 1)).toNat (g (2 * k + 2)))])) (S' := MS I1 J cc ss) 4 rfl ?_
    refine ev_cv rfl rfl rfl ⟨Nat.le_of_ble_eq_true rfl, Nat.le_of_ble_eq_true rfl⟩ (sp_pixelsOf_r X _ _ _ _ 0 hg hws (by omega)) ?_
    show Ev X k_X9_keepsTopology (60, [some (vr 135), some (vi (i : Int)), some (vi (k : Int))], [vi (g (2 * 0 + 1)), vi (i : Int), vr 135, vi (tpF g i (g (2 * k + 1)).toNat (g (2 * k + 2)))]) (MS I1 J cc ss) _
    refine ev_n (fr' := (62, [some (vr 135), some (vi (i : Int)), some (vi (k : Int))], [vi 0, vr 135, vi (g (2 * 0 + 1)), vi (i : Int), vr 135, vi (tpF g i (g (2 * k + 1)).toNat (g (2 * k + 2)))])) (S' := MS I1 J cc ss) 2 rfl ?_
    refine ev_cv rfl rfl rfl ⟨Nat.le_of_ble_eq_true rfl, Nat.le_of_ble_eq_true rfl⟩ (sp_extraOf_r X _ _ _ _ 0 hg hws (by omega)) ?_
    show Ev X k_X9_keepsTopology (65, [some (vr 135), some (vi (i : Int)), some (vi (k : Int))], [vi (g (2 * 0 + 2)), vi (g (2 * 0 + 1)), vi (i : Int), vr 135, vi (tpF g i (g (2 * k + 1)).toNat (g (2 * k + 2)))]) (MS I1 J cc ss) _
    refine ev_cz rfl rfl rfl ⟨Nat.le_of_ble_eq_true rfl, Nat.le_of_ble_eq_true rfl⟩ (sp_rtopZ X _ _ _ _ i (g (2 * 0 + 1)) (g (2 * 0 + 2)) hg hwp hwi (by omega) (by omega) (by omega)) (fun zI3 I3 J q4 => ?_)
    obtain ⟨rfl, rI3, hzI3⟩ := q4
    show Ev X k_X9_keepsTopology (68, [some (vr 135), some (vi (i : Int)), some (vi (k : Int))], [vi zI3, vi (tpF g i (g (2 * k + 1)).toNat (g (2 * k + 2)))]) (MS I3 J cc ss) _
    rw [hzI3]
    have hF := hF.trans rI3
    refine ev_ic (c := .eq) (off := 5) rfl (by decide) (fun (g2 : (tpF g i (g (2 * k + 1)).toNat (g (2 * k + 2))) = (tpF g i (g (2 * 0 + 1)).toNat (g (2 * 0 + 2)))) => ?_) (fun (g2 : ¬ ((tpF g i (g (2 * k + 1)).toNat (g (2 * k + 2))) = (tpF g i (g (2 * 0 + 1)).toNat (g (2 * 0 + 2))))) => ?_)
    · show Ev X k_X9_keepsTopology (73, [some (vr 135), some (vi (i : Int)), some (vi (k : Int))], []) (MS I3 J cc ss) _
      refine ev_inc (z := (k : Int) + 1) rfl rfl (by omega) (by omega) (by omega) rfl ?_
      show Ev X k_X9_keepsTopology (76, [some (vr 135), some (vi (i : Int)), some (vi ((k : Int) + 1))], []) (MS I3 J cc ss) _
      refine ev_n (fr' := (19, [some (vr 135), some (vi (i : Int)), some (vi ((k : Int) + 1))], [])) (S' := MS I3 J cc ss) 1 rfl ?_
      exact lp_rkt X _ _ cc ss I0 i hg hws hwp hwi hi h4 (k + 1) (by omega) (nlt_succ hq g2) hF
    · show Ev X k_X9_keepsTopology (71, [some (vr 135), some (vi (i : Int)), some (vi (k : Int))], []) (MS I3 J cc ss) _
      refine ev_n (fr' := (72, [some (vr 135), some (vi (i : Int)), some (vi (k : Int))], [vi 0])) (S' := MS I3 J cc ss) 1 rfl ?_
      refine ev_r rfl rfl rfl ?_
      exact ⟨_, _, rfl, congrArg (fun z => Sum.inl (some (vi z))) (if_neg (fun q => g2 (kt_true.mp q k (by omega)))).symm, rfl, hF⟩
termination_by 6 - k
decreasing_by all_goals omega
theorem rb_keeps_x (X : AX) (I J : Nat → Nat → Int) (cc ss : Nat) {g : F1} (y : Int) (hg : J 136 = g) (hws : WS g) (hwp : WP g) (hwi : WI g) (h : ¬ (0 ≤ y ∧ y < g 308)) : Ev X k_X9_keepsTopology (0, [some (vr 135), some (vi y), none], []) (MS I J cc ss) (fun o T => o = .inl (some (vi 0)) ∧ T = MS (up2 I 135 4 1) J cc ss) := by
  have q0 := hws.1
  have q1 := hws.2.1
  have q2 := hwp.1
  have q3 := hwp.2.1
  have q4 := hwi.1
  have q5 := hwi.2.1
  refine ev_n (fr' := (3, [some (vr 135), some (vi y), none], [vi y, vr 135, vr 135])) (S' := MS I J cc ss) 3 rfl ?_
  refine ev_cv rfl rfl rfl ⟨Nat.le_of_ble_eq_true rfl, Nat.le_of_ble_eq_true rfl⟩ (sp_isIcon_r X _ _ _ _ y hg hwi) ?_
  show Ev X k_X9_keepsTopology (6, [some (vr 135), some (vi y), none], [vi (if 0 ≤ y ∧ y ≤ g 308 - 1 then 1 else 0), vr 135]) (MS I J cc ss) _
  refine ev_beq _ rfl (by decide) (fun (g1 : ¬ (0 ≤ y ∧ y ≤ g 308 - 1)) => ?_) (fun (g1 : 0 ≤ y ∧ y ≤ g 308 - 1) => False.elim ((show ¬ (0 ≤ y ∧ y ≤ g 308 - 1) from by omega) g1))
  show Ev X k_X9_keepsTopology (13, [some (vr 135), some (vi y), none], [vr 135]) (MS I J cc ss) _
  refine ev_n (fr' := (14, [some (vr 135), some (vi y), none], [vi 1, vr 135])) (S' := MS I J cc ss) 1 rfl ?_
  refine ev_n (fr' := (17, [some (vr 135), some (vi y), none], [])) (S' := MS (up2 I 135 4 1) J cc ss) 1 rfl ?_
  refine ev_n (fr' := (91, [some (vr 135), some (vi y), some (vi 1)], [vi 0])) (S' := MS (up2 I 135 4 1) J cc ss) 9 rfl ?_
  refine ev_r rfl rfl rfl ?_
  exact ⟨rfl, rfl⟩
theorem rb_keeps (X : AX) (I J : Nat → Nat → Int) (cc ss : Nat) {g : F1} (i : Nat) (hg : J 136 = g) (hws : WS g) (hwp : WP g) (hwi : WI g) (hi : (i : Int) < g 308) : Ev X k_X9_keepsTopology (0, [some (vr 135), some (vi (i : Int)), none], []) (MS I J cc ss) (PV cc ss (some (vi (if ktB g i = true then 1 else 0))) (fun I' J' => J' = J ∧ scrM (up2 I 135 4 0) I')) := by
  have q0 := hws.1
  have q1 := hws.2.1
  have q2 := hwp.1
  have q3 := hwp.2.1
  have q4 := hwi.1
  have q5 := hwi.2.1
  refine ev_n (fr' := (3, [some (vr 135), some (vi (i : Int)), none], [vi (i : Int), vr 135, vr 135])) (S' := MS I J cc ss) 3 rfl ?_
  refine ev_cv rfl rfl rfl ⟨Nat.le_of_ble_eq_true rfl, Nat.le_of_ble_eq_true rfl⟩ (sp_isIcon_r X _ _ _ _ (i : Int) hg hwi) ?_
  show Ev X k_X9_keepsTopology (6, [some (vr 135), some (vi (i : Int)), none], [vi (if 0 ≤ (i : Int) ∧ (i : Int) ≤ g 308 - 1 then 1 else 0), vr 135]) (MS I J cc ss) _
  refine ev_beq _ rfl (by decide) (fun (g1 : ¬ (0 ≤ (i : Int) ∧ (i : Int) ≤ g 308 - 1)) => False.elim (g1 (by omega))) (fun (g1 : 0 ≤ (i : Int) ∧ (i : Int) ≤ g 308 - 1) => ?_)
  show Ev X k_X9_keepsTopology (9, [some (vr 135), some (vi (i : Int)), none], [vr 135]) (MS I J cc ss) _
  refine ev_n (fr' := (14, [some (vr 135), some (vi (i : Int)), none], [vi 0, vr 135])) (S' := MS I J cc ss) 2 rfl ?_
  refine ev_n (fr' := (17, [some (vr 135), some (vi (i : Int)), none], [])) (S' := MS (up2 I 135 4 0) J cc ss) 1 rfl ?_
  refine ev_n (fr' := (19, [some (vr 135), some (vi (i : Int)), some (vi 1)], [])) (S' := MS (up2 I 135 4 0) J cc ss) 2 rfl ?_
  exact lp_rkt X _ _ cc ss (up2 I 135 4 0) i hg hws hwp hwi hi (up2_same _ _ _ _) 1 (by omega) (fun q hq => by rw [show q = 0 by omega]) (scrM.refl _)
theorem rb_smallest_x (X : AX) (I J : Nat → Nat → Int) (cc ss : Nat) {g : F1} (y : Int) (hg : J 136 = g) (hws : WS g) (hwp : WP g) (hwi : WI g) (h : ¬ (0 ≤ y ∧ y < g 308)) : Ev X k_X9_smallest (0, [some (vr 135), some (vi y), none, none], []) (MS I J cc ss) (fun o T => o = .inl (some (vi 0)) ∧ T = MS (up2 I 135 4 1) J cc ss) := by
  have q0 := hws.1
  have q1 := hws.2.1
  have q2 := hwp.1
  have q3 := hwp.2.1
  have q4 := hwi.1
  have q5 := hwi.2.1
  refine ev_n (fr' := (3, [some (vr 135), some (vi y), none, none], [vi y, vr 135, vr 135])) (S' := MS I J cc ss) 3 rfl ?_
  refine ev_cv rfl rfl rfl ⟨Nat.le_of_ble_eq_true rfl, Nat.le_of_ble_eq_true rfl⟩ (sp_isIcon_r X _ _ _ _ y hg hwi) ?_
  show Ev X k_X9_smallest (6, [some (vr 135), some (vi y), none, none], [vi (if 0 ≤ y ∧ y ≤ g 308 - 1 then 1 else 0), vr 135]) (MS I J cc ss) _
  refine ev_beq _ rfl (by decide) (fun (g1 : ¬ (0 ≤ y ∧ y ≤ g 308 - 1)) => ?_) (fun (g1 : 0 ≤ y ∧ y ≤ g 308 - 1) => False.elim ((show ¬ (0 ≤ y ∧ y ≤ g 308 - 1) from by omega) g1))
  show Ev X k_X9_smallest (13, [some (vr 135), some (vi y), none, none], [vr 135]) (MS I J cc ss) _
  refine ev_n (fr' := (14, [some (vr 135), some (vi y), none, none], [vi 1, vr 135])) (S' := MS I J cc ss) 1 rfl ?_
  refine ev_n (fr' := (17, [some (vr 135), some (vi y), none, none], [])) (S' := MS (up2 I 135 4 1) J cc ss) 1 rfl ?_
  refine ev_n (fr' := (25, [some (vr 135), some (vi y), none, none], [vi 0])) (S' := MS (up2 I 135 4 1) J cc ss) 4 rfl ?_
  refine ev_r rfl rfl rfl ?_
  exact ⟨rfl, rfl⟩
theorem lp_rsm (X : AX) (I J : Nat → Nat → Int) (cc ss : Nat) {g : F1} (I0 : F2) (i : Nat) (hg : J 136 = g) (hws : WS g) (hwp : WP g) (hwi : WI g) (hi : (i : Int) < g 308) (f : Nat) (hf4 : 4 ≤ f ∧ f ≤ 32) (hf : smN g i 32 = smN g i f) (hF : scrM I0 I) : Ev X k_X9_smallest (38, [some (vr 135), some (vi (i : Int)), some (vi (tpF g i 32 0)), some (vi (f : Int))], []) (MS I J cc ss) (PV cc ss (some (vi (smN g i 32 : Int))) (fun I' J' => J' = J ∧ scrM I0 I')) := by
  refine ev_n (fr' := (40, [some (vr 135), some (vi (i : Int)), some (vi (tpF g i 32 0)), some (vi (f : Int))], [vi 4, vi (f : Int)])) (S' := MS I J cc ss) 2 rfl ?_
  refine ev_ic (c := .le) (off := 22) rfl (by decide) (fun (g1 : (f : Int) ≤ 4) => ?_) (fun (g1 : ¬ ((f : Int) ≤ 4)) => ?_)
  · show Ev X k_X9_smallest (62, [some (vr 135), some (vi (i : Int)), some (vi (tpF g i 32 0)), some (vi (f : Int))], []) (MS I J cc ss) _
    refine ev_n (fr' := (63, [some (vr 135), some (vi (i : Int)), some (vi (tpF g i 32 0)), some (vi (f : Int))], [vi (f : Int)])) (S' := MS I J cc ss) 1 rfl ?_
    refine ev_r rfl rfl rfl ?_
    exact ⟨_, _, rfl, congrArg (fun z => Sum.inl (some (vi z))) (by
      have e4 : f = 4 := by omega
      rw [hf, e4]; show _ = ((if 4 ≤ 3 ∧ _ then _ else 3 + 1 : Nat) : Int); rw [if_neg (by omega)]), rfl, hF⟩
  · show Ev X k_X9_smallest (43, [some (vr 135), some (vi (i : Int)), some (vi (tpF g i 32 0)), some (vi (f : Int))], []) (MS I J cc ss) _
    refine ev_n (fr' := (47, [some (vr 135), some (vi (i : Int)), some (vi (tpF g i 32 0)), some (vi (f : Int))], [vi 1, vi (f : Int), vi (i : Int), vr 135])) (S' := MS I J cc ss) 4 rfl ?_
    refine ev_sub (z := (f : Int) - 1) rfl (by omega) (by omega) (by omega) ?_
    show Ev X k_X9_smallest (48, [some (vr 135), some (vi (i : Int)), some (vi (tpF g i 32 0)), some (vi (f : Int))], [vi ((f : Int) - 1), vi (i : Int), vr 135]) (MS I J cc ss) _
    refine ev_n (fr' := (49, [some (vr 135), some (vi (i : Int)), some (vi (tpF g i 32 0)), some (vi (f : Int))], [vi 0, vi ((f : Int) - 1), vi (i : Int), vr 135])) (S' := MS I J cc ss) 1 rfl ?_
    refine ev_cz rfl rfl rfl ⟨Nat.le_of_ble_eq_true rfl, Nat.le_of_ble_eq_true rfl⟩ (sp_rtopZ X _ _ _ _ i ((f : Int) - 1) 0 hg hwp hwi (by omega) (by omega) (by omega)) (fun zI1 I1 J q2 => ?_)
    obtain ⟨rfl, rI1, hzI1⟩ := q2
    show Ev X k_X9_smallest (52, [some (vr 135), some (vi (i : Int)), some (vi (tpF g i 32 0)), some (vi (f : Int))], [vi zI1]) (MS I1 J cc ss) _
    rw [hzI1, show ((f : Int) - 1).toNat = f - 1 by omega]
    have hF := hF.trans rI1
    refine ev_n (fr' := (53, [some (vr 135), some (vi (i : Int)), some (vi (tpF g i 32 0)), some (vi (f : Int))], [vi (tpF g i 32 0), vi (tpF g i (f - 1) 0)])) (S' := MS I1 J cc ss) 1 rfl ?_
    refine ev_ic (c := .ne) (off := 9) rfl (by decide) (fun (g2 : (tpF g i (f - 1) 0) ≠ (tpF g i 32 0)) => ?_) (fun (g2 : ¬ ((tpF g i (f - 1) 0) ≠ (tpF g i 32 0))) => ?_)
    · show Ev X k_X9_smallest (62, [some (vr 135), some (vi (i : Int)), some (vi (tpF g i 32 0)), some (vi (f : Int))], []) (MS I1 J cc ss) _
      refine ev_n (fr' := (63, [some (vr 135), some (vi (i : Int)), some (vi (tpF g i 32 0)), some (vi (f : Int))], [vi (f : Int)])) (S' := MS I1 J cc ss) 1 rfl ?_
      refine ev_r rfl rfl rfl ?_
      exact ⟨_, _, rfl, congrArg (fun z => Sum.inl (some (vi z))) (by
        rw [hf]
        obtain ⟨q, rfl⟩ : ∃ q, f = q + 1 := ⟨f - 1, by omega⟩
        show _ = ((if 4 ≤ q ∧ tpF g i q 0 = _ then _ else q + 1 : Nat) : Int)
        rw [if_neg (fun z => g2 z.2)]), rfl, hF⟩
    · show Ev X k_X9_smallest (56, [some (vr 135), some (vi (i : Int)), some (vi (tpF g i 32 0)), some (vi (f : Int))], []) (MS I1 J cc ss) _
      refine ev_inc (z := (f : Int) - 1) rfl rfl (by omega) (by omega) (by omega) rfl ?_
      show Ev X k_X9_smallest (59, [some (vr 135), some (vi (i : Int)), some (vi (tpF g i 32 0)), some (vi ((f : Int) - 1))], []) (MS I1 J cc ss) _
      refine ev_n (fr' := (38, [some (vr 135), some (vi (i : Int)), some (vi (tpF g i 32 0)), some (vi ((f : Int) - 1))], [])) (S' := MS I1 J cc ss) 1 rfl ?_
      rw [show (f : Int) - 1 = ((f - 1 : Nat) : Int) by omega]
      exact lp_rsm X _ _ cc ss I0 i hg hws hwp hwi hi (f - 1) (by omega) (by
        rw [hf]
        obtain ⟨q, rfl⟩ : ∃ q, f = q + 1 := ⟨f - 1, by omega⟩
        show (if 4 ≤ q ∧ _ then smN g i q else q + 1) = _
        rw [if_pos ⟨by omega, Decidable.of_not_not g2⟩]; rfl) hF
termination_by f
decreasing_by all_goals omega
theorem rb_smallest (X : AX) (I J : Nat → Nat → Int) (cc ss : Nat) {g : F1} (i : Nat) (hg : J 136 = g) (hws : WS g) (hwp : WP g) (hwi : WI g) (hi : (i : Int) < g 308) : Ev X k_X9_smallest (0, [some (vr 135), some (vi (i : Int)), none, none], []) (MS I J cc ss) (PV cc ss (some (vi ((smN g i 32 : Int)))) (fun I' J' => J' = J ∧ scrM (up2 I 135 4 0) I')) := by
  have q0 := hws.1
  have q1 := hws.2.1
  have q2 := hwp.1
  have q3 := hwp.2.1
  have q4 := hwi.1
  have q5 := hwi.2.1
  have hF := scrM.refl (up2 I 135 4 0)
  refine ev_n (fr' := (3, [some (vr 135), some (vi (i : Int)), none, none], [vi (i : Int), vr 135, vr 135])) (S' := MS I J cc ss) 3 rfl ?_
  refine ev_cv rfl rfl rfl ⟨Nat.le_of_ble_eq_true rfl, Nat.le_of_ble_eq_true rfl⟩ (sp_isIcon_r X _ _ _ _ (i : Int) hg hwi) ?_
  show Ev X k_X9_smallest (6, [some (vr 135), some (vi (i : Int)), none, none], [vi (if 0 ≤ (i : Int) ∧ (i : Int) ≤ g 308 - 1 then 1 else 0), vr 135]) (MS I J cc ss) _
  refine ev_beq _ rfl (by decide) (fun (g1 : ¬ (0 ≤ (i : Int) ∧ (i : Int) ≤ g 308 - 1)) => False.elim (g1 (by omega))) (fun (g1 : 0 ≤ (i : Int) ∧ (i : Int) ≤ g 308 - 1) => ?_)
  show Ev X k_X9_smallest (9, [some (vr 135), some (vi (i : Int)), none, none], [vr 135]) (MS I J cc ss) _
  refine ev_n (fr' := (14, [some (vr 135), some (vi (i : Int)), none, none], [vi 0, vr 135])) (S' := MS I J cc ss) 2 rfl ?_
  refine ev_n (fr' := (17, [some (vr 135), some (vi (i : Int)), none, none], [])) (S' := MS (up2 I 135 4 0) J cc ss) 1 rfl ?_
  refine ev_n (fr' := (31, [some (vr 135), some (vi (i : Int)), none, none], [vi 0, vi 32, vi (i : Int), vr 135])) (S' := MS (up2 I 135 4 0) J cc ss) 7 rfl ?_
  refine ev_cz rfl rfl rfl ⟨Nat.le_of_ble_eq_true rfl, Nat.le_of_ble_eq_true rfl⟩ (sp_rtopZ X _ _ _ _ i 32 0 hg hwp hwi (by omega) (by omega) (by omega)) (fun zI1 I1 J q2 => ?_)
  obtain ⟨rfl, rI1, hzI1⟩ := q2
  show Ev X k_X9_smallest (34, [some (vr 135), some (vi (i : Int)), none, none], [vi zI1]) (MS I1 J cc ss) _
  rw [hzI1, show (32 : Int).toNat = 32 from rfl]
  have hF := hF.trans rI1
  refine ev_n (fr' := (38, [some (vr 135), some (vi (i : Int)), some (vi (tpF g i 32 0)), some (vi 32)], [])) (S' := MS I1 J cc ss) 3 rfl ?_
  refine (lp_rsm X _ _ cc ss (up2 I 135 4 0) i hg hws hwp hwi hi 32 (by omega) rfl hF)
