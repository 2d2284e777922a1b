/-! THE REFERENCE'S LEXER: tokens (printed by gen/g89.py) -/
theorem RB.u {I : F2} {tx : F1} {n f : Nat} {v : Int} (h : RB I tx n) (hf : f ≠ 7) : RB (up2 I 135 f v) tx n := ⟨h.1, (up2_ne2 _ _ _ _ (Ne.symm hf)).trans h.2.1, fun k hk => by rw [up2_row _ _ _ _ (by decide)]; exact h.2.2 k hk⟩
theorem onlyL.u {I0 I J0 J : F2} {f : Nat} {v : Int} (h : onlyL I0 I J0 J) (hf : 8 ≤ f ∧ f ≤ 12) : onlyL I0 (up2 I 135 f v) J0 J := ⟨fun a ha => (up2_row _ _ _ _ ha).trans (h.1 a ha), fun k hk => (up2_ne2 _ _ _ _ (by omega)).trans (h.2.1 k hk), h.2.2⟩
theorem onlyL.j {I0 I J0 J : F2} {f : Nat} {v : Int} (h : onlyL I0 I J0 J) : onlyL I0 I J0 (up2 J 135 f v) := ⟨h.1, h.2.1, fun a ha => (up2_row _ _ _ _ ha).trans (h.2.2 a ha)⟩
theorem atF_sp {tx : F1} {n i : Nat} : (atF tx n i = 32) ↔ (i < n ∧ isSp (tx i) = true) := by
  by_cases h : i < n
  · rw [atF_in h]; exact ⟨fun q => ⟨h, decide_eq_true q⟩, fun q => of_decide_eq_true q.2⟩
  · rw [atF_out (by omega)]; exact ⟨fun q => absurd q (by decide), fun q => absurd q.1 h⟩
theorem atF_le {tx : F1} {n i : Nat} : (97 ≤ atF tx n i ∧ atF tx n i ≤ 122) ↔ (i < n ∧ isLe (tx i) = true) := by
  by_cases h : i < n
  · rw [atF_in h]; exact ⟨fun q => ⟨h, decide_eq_true q⟩, fun q => of_decide_eq_true q.2⟩
  · rw [atF_out (by omega)]; exact ⟨fun q => absurd q (by decide), fun q => absurd q.1 h⟩
theorem atF_di {tx : F1} {n i : Nat} : (48 ≤ atF tx n i ∧ atF tx n i ≤ 57) ↔ (i < n ∧ isDi (tx i) = true) := by
  by_cases h : i < n
  · rw [atF_in h]; exact ⟨fun q => ⟨h, decide_eq_true q⟩, fun q => of_decide_eq_true q.2⟩
  · rw [atF_out (by omega)]; exact ⟨fun q => absurd q (by decide), fun q => absurd q.1 h⟩
theorem spF_at {tx : F1} {n a : Nat} (h : spF tx n a = a) : atF tx n a ≠ 32 := by
  intro q
  have q2 := atF_sp.mp q
  have h3 := spF_stop (tx := tx) (n := n) a (by rw [h]; exact q2.1)
  rw [h] at h3
  exact absurd (h3.symm.trans q2.2) (by decide)
theorem sp_see (X : AX) (I J : Nat → Nat → Int) (cc ss : Nat) {tx : F1} {n : Nat} (hR : RB I tx n) (k : Nat) : Ev X k_X9_see (0, [some (vr 135), some (vi (k : Int))], []) (MS I J cc ss) (fun o T => o = .inl (some (vi (atF tx n k))) ∧ T = MS I J cc ss) := by
  refine ev_n (fr' := (5, [some (vr 135), some (vi (k : Int))], [vi (I 135 7), vi (k : Int)])) (S' := MS I J cc ss) 3 rfl ?_
  refine ev_eqi (hR.2.1) ?_
  show Ev X k_X9_see (5, [some (vr 135), some (vi (k : Int))], [vi (n : Int), vi (k : Int)]) (MS I J cc ss) _
  refine ev_ic (c := .ge) (off := 12) rfl (by decide) (fun (g1 : (n : Int) ≤ (k : Int)) => ?_) (fun (g1 : ¬ ((n : Int) ≤ (k : Int))) => ?_)
  · show Ev X k_X9_see (17, [some (vr 135), some (vi (k : Int))], []) (MS I J cc ss) _
    refine ev_n (fr' := (18, [some (vr 135), some (vi (k : Int))], [vi (-1)])) (S' := MS I J cc ss) 1 rfl ?_
    refine ev_r rfl rfl rfl ?_
    exact ⟨congrArg (fun z => Sum.inl (some (vi z))) (atF_out (by omega)).symm, rfl⟩
  · show Ev X k_X9_see (8, [some (vr 135), some (vi (k : Int))], []) (MS I J cc ss) _
    refine ev_n (fr' := (13, [some (vr 135), some (vi (k : Int))], [vi (k : Int), vr 139])) (S' := MS I J cc ss) 3 rfl ?_
    refine ev_iaN (j := k) (z := (tx k)) rfl rfl (by omega) (by have := hR.1; omega) ((hR.2.2 k (by omega)).1) ?_
    show Ev X k_X9_see (14, [some (vr 135), some (vi (k : Int))], [vi (tx k)]) (MS I J cc ss) _
    refine ev_n (fr' := (18, [some (vr 135), some (vi (k : Int))], [vi (tx k)])) (S' := MS I J cc ss) 1 rfl ?_
    refine ev_r rfl rfl rfl ?_
    exact ⟨congrArg (fun z => Sum.inl (some (vi z))) (atF_in (by omega)).symm, rfl⟩
theorem lp_nxw (X : AX) (I J : Nat → Nat → Int) (cc ss : Nat) (I0 J0 : F2) {tx : F1} {n : Nat} (hR : RB I0 tx n) (hO : onlyL I0 I J0 J) (hw1 : I 135 11 = I0 135 11) (a : Nat) (hsp : spF tx n a = a) (ha : a < n ∧ isLe (tx a) = true) (k : Nat) (hkn : k ≤ n) (h8 : I 135 8 = (a : Int)) (h9 : I 135 9 = (k : Int)) (hL : leF tx n k = leF tx n a) : Ev X k_X9_next (75, [some (vr 135)], []) (MS I J cc ss) (PV cc ss none (fun I' J' => TK I' J' tx n a ∧ onlyL I0 I' J0 J' ∧ I' 135 11 = I0 135 11)) := by
  have h900 := hR.1
  refine ev_n (fr' := (80, [some (vr 135)], [vi (I 135 9), vr 135])) (S' := MS I J cc ss) 3 rfl ?_
  refine ev_eqi (h9) ?_
  show Ev X k_X9_next (80, [some (vr 135)], [vi (k : Int), vr 135]) (MS I J cc ss) _
  refine ev_cv rfl rfl rfl ⟨Nat.le_of_ble_eq_true rfl, Nat.le_of_ble_eq_true rfl⟩ (sp_see X _ _ _ _ (tx := tx) (n := n) (hR.l hO) k) ?_
  show Ev X k_X9_next (83, [some (vr 135)], [vi (atF tx n k)]) (MS I J cc ss) _
  refine ev_cv rfl rfl rfl ⟨Nat.le_of_ble_eq_true rfl, Nat.le_of_ble_eq_true rfl⟩ (sp_isLetter X _ (atF tx n k) ) ?_
  show Ev X k_X9_next (86, [some (vr 135)], [vi (if 97 ≤ (atF tx n k) ∧ (atF tx n k) ≤ 122 then 1 else 0)]) (MS I J cc ss) _
  refine ev_beq _ rfl (by decide) (fun (g1 : ¬ (97 ≤ (atF tx n k) ∧ (atF tx n k) ≤ 122)) => ?_) (fun (g1 : 97 ≤ (atF tx n k) ∧ (atF tx n k) ≤ 122) => ?_)
  · show Ev X k_X9_next (102, [some (vr 135)], []) (MS I J cc ss) _
    refine ev_n (fr' := (104, [some (vr 135)], [vi 0, vr 135])) (S' := MS I J cc ss) 2 rfl ?_
    refine ev_n (fr' := (107, [some (vr 135)], [])) (S' := MS (up2 I 135 10 0) J cc ss) 1 rfl ?_
    refine ev_n (fr' := (216, [some (vr 135)], [])) (S' := MS (up2 I 135 10 0) J cc ss) 1 rfl ?_
    refine ev_r rfl rfl rfl ?_
    have hs : leF tx n k = k := leF_not (by
      rcases Nat.lt_or_ge k n with h | h
      · right; cases hb : isLe (tx k)
        · rfl
        · exact absurd (atF_le.mpr ⟨h, hb⟩) (by assumption)
      · exact Or.inl h)
    rw [hs] at hL
    have hk0 := kd_0.mpr ha
    exact ⟨_, _, rfl, rfl, ⟨by omega, hsp, (up2_ne2 _ _ _ _ (by decide)).trans h8, (up2_ne2 _ _ _ _ (by decide)).trans (by rw [en_0 ha, ← hL]; exact h9), (up2_same _ _ _ _).trans hk0.symm, fun q => absurd (hk0.symm.trans q) (by decide)⟩, hO.u (by omega), (up2_ne2 _ _ _ _ (by decide)).trans hw1⟩
  · show Ev X k_X9_next (89, [some (vr 135)], []) (MS I J cc ss) _
    refine ev_n (fr' := (94, [some (vr 135)], [vi (I 135 9), vr 135])) (S' := MS I J cc ss) 3 rfl ?_
    refine ev_eqi (h9) ?_
    show Ev X k_X9_next (94, [some (vr 135)], [vi (k : Int), vr 135]) (MS I J cc ss) _
    refine ev_n (fr' := (95, [some (vr 135)], [vi 1, vi (k : Int), vr 135])) (S' := MS I J cc ss) 1 rfl ?_
    refine ev_add (z := (k : Int) + 1) rfl (by omega) (by omega) (by omega) ?_
    show Ev X k_X9_next (96, [some (vr 135)], [vi ((k : Int) + 1), vr 135]) (MS I J cc ss) _
    refine ev_n (fr' := (99, [some (vr 135)], [])) (S' := MS (up2 I 135 9 ((k : Int) + 1)) J cc ss) 1 rfl ?_
    refine ev_n (fr' := (75, [some (vr 135)], [])) (S' := MS (up2 I 135 9 ((k : Int) + 1)) J cc ss) 1 rfl ?_
    have hkn2 := (atF_le.mp (by assumption : 97 ≤ atF tx n k ∧ atF tx n k ≤ 122)).1
    have hs : leF tx n k = leF tx n (k + 1) := scF_step (atF_le.mp (by assumption)).1 (atF_le.mp (by assumption)).2
    exact lp_nxw X _ _ cc ss I0 J0 hR (hO.u (by omega)) ((up2_ne2 _ _ _ _ (by decide)).trans hw1) a hsp ha (k + 1) (by have := (atF_le.mp (by assumption : 97 ≤ atF tx n k ∧ atF tx n k ≤ 122)).1; omega) ((up2_ne2 _ _ _ _ (by decide)).trans h8) (up2_same _ _ _ _) (hL.symm.trans hs).symm
termination_by n - k
decreasing_by all_goals omega
theorem lp_nxd (X : AX) (I J : Nat → Nat → Int) (cc ss : Nat) (I0 J0 : F2) {tx : F1} {n : Nat} (hR : RB I0 tx n) (hO : onlyL I0 I J0 J) (hw1 : I 135 11 = I0 135 11) (a : Nat) (hsp : spF tx n a = a) (ha : a < n ∧ isDi (tx a) = true) (k : Nat) (hkn : k ≤ n) (h8 : I 135 8 = (a : Int)) (h9 : I 135 9 = (k : Int)) (hL : diF tx n k = diF tx n a) (hall : ∀ j, a ≤ j → j < k → isDi (tx j) = true) (hak : a ≤ k) (z : Int) (h14 : J 135 14 = z) (hz : nOK z (nuF tx a (k - a))) : Ev X k_X9_next (129, [some (vr 135)], []) (MS I J cc ss) (PV cc ss none (fun I' J' => TK I' J' tx n a ∧ onlyL I0 I' J0 J' ∧ I' 135 11 = I0 135 11)) := by
  have h900 := hR.1
  have hz0 := hz.1
  have hz1 := hz.2.1
  have hnu := nuF_rng (tx := tx) (a := a) (k - a) (fun j h1 h2 => hall j h1 (by omega))
  refine ev_n (fr' := (134, [some (vr 135)], [vi (I 135 9), vr 135])) (S' := MS I J cc ss) 3 rfl ?_
  refine ev_eqi (h9) ?_
  show Ev X k_X9_next (134, [some (vr 135)], [vi (k : Int), vr 135]) (MS I J cc ss) _
  refine ev_cv rfl rfl rfl ⟨Nat.le_of_ble_eq_true rfl, Nat.le_of_ble_eq_true rfl⟩ (sp_see X _ _ _ _ (tx := tx) (n := n) (hR.l hO) k) ?_
  show Ev X k_X9_next (137, [some (vr 135)], [vi (atF tx n k)]) (MS I J cc ss) _
  refine ev_cv rfl rfl rfl ⟨Nat.le_of_ble_eq_true rfl, Nat.le_of_ble_eq_true rfl⟩ (sp_isDigit X _ (atF tx n k) ) ?_
  show Ev X k_X9_next (140, [some (vr 135)], [vi (if 48 ≤ (atF tx n k) ∧ (atF tx n k) ≤ 57 then 1 else 0)]) (MS I J cc ss) _
  refine ev_beq _ rfl (by decide) (fun (g1 : ¬ (48 ≤ (atF tx n k) ∧ (atF tx n k) ≤ 57)) => ?_) (fun (g1 : 48 ≤ (atF tx n k) ∧ (atF tx n k) ≤ 57) => ?_)
  · show Ev X k_X9_next (193, [some (vr 135)], []) (MS I J cc ss) _
    refine ev_n (fr' := (195, [some (vr 135)], [vi 1, vr 135])) (S' := MS I J cc ss) 2 rfl ?_
    refine ev_n (fr' := (198, [some (vr 135)], [])) (S' := MS (up2 I 135 10 1) J cc ss) 1 rfl ?_
    refine ev_n (fr' := (216, [some (vr 135)], [])) (S' := MS (up2 I 135 10 1) J cc ss) 1 rfl ?_
    refine ev_r rfl rfl rfl ?_
    have hs : diF tx n k = k := diF_not (by
      rcases Nat.lt_or_ge k n with h | h
      · right; cases hb : isDi (tx k)
        · rfl
        · exact absurd (atF_di.mpr ⟨h, hb⟩) (by assumption)
      · exact Or.inl h)
    rw [hs] at hL
    have hk0 := kd_1.mpr ha
    exact ⟨_, _, rfl, rfl, ⟨by omega, hsp, (up2_ne2 _ _ _ _ (by decide)).trans h8, (up2_ne2 _ _ _ _ (by decide)).trans (by rw [en_1 ha, ← hL]; exact h9), (up2_same _ _ _ _).trans hk0.symm, fun _ => by rw [h14, ← hL]; exact hz⟩, hO.u (by omega), (up2_ne2 _ _ _ _ (by decide)).trans hw1⟩
  · show Ev X k_X9_next (143, [some (vr 135)], []) (MS I J cc ss) _
    refine ev_n (fr' := (147, [some (vr 135)], [vl (J 135 14)])) (S' := MS I J cc ss) 2 rfl ?_
    refine ev_eql (h14) ?_
    show Ev X k_X9_next (147, [some (vr 135)], [vl z]) (MS I J cc ss) _
    refine ev_n (fr' := (150, [some (vr 135)], [vl 100000, vl z])) (S' := MS I J cc ss) 1 rfl ?_
    refine ev_lc (c := .ge) (off := 29) rfl rfl (by decide) (fun (g2 : 100000 ≤ z) => ?_) (fun (g2 : ¬ (100000 ≤ z)) => ?_)
    · show Ev X k_X9_next (180, [some (vr 135)], []) (MS I J cc ss) _
      refine ev_n (fr' := (185, [some (vr 135)], [vi (I 135 9), vr 135])) (S' := MS I J cc ss) 3 rfl ?_
      refine ev_eqi (h9) ?_
      show Ev X k_X9_next (185, [some (vr 135)], [vi (k : Int), vr 135]) (MS I J cc ss) _
      refine ev_n (fr' := (186, [some (vr 135)], [vi 1, vi (k : Int), vr 135])) (S' := MS I J cc ss) 1 rfl ?_
      refine ev_add (z := (k : Int) + 1) rfl (by omega) (by omega) (by omega) ?_
      show Ev X k_X9_next (187, [some (vr 135)], [vi ((k : Int) + 1), vr 135]) (MS I J cc ss) _
      refine ev_n (fr' := (190, [some (vr 135)], [])) (S' := MS (up2 I 135 9 ((k : Int) + 1)) J cc ss) 1 rfl ?_
      refine ev_n (fr' := (129, [some (vr 135)], [])) (S' := MS (up2 I 135 9 ((k : Int) + 1)) J cc ss) 1 rfl ?_
      have hq := atF_di.mp (by assumption : 48 ≤ atF tx n k ∧ atF tx n k ≤ 57)
      have hs : diF tx n k = diF tx n (k + 1) := scF_step hq.1 hq.2
      exact lp_nxd X _ _ cc ss I0 J0 hR (hO.u (by omega)) ((up2_ne2 _ _ _ _ (by decide)).trans hw1) a hsp ha (k + 1) (by omega) ((up2_ne2 _ _ _ _ (by decide)).trans h8) (up2_same _ _ _ _) (hL.symm.trans hs).symm (nlt_succ2 hall hq.2) (by omega) _ h14 (by
        rw [show k + 1 - a = (k - a) + 1 by omega]
        show nOK _ (10 * nuF tx a (k - a) + (tx (a + (k - a)) - 48))
        rw [show a + (k - a) = k by omega]
        have ht := of_decide_eq_true hq.2
        unfold nOK at *; omega)
    · show Ev X k_X9_next (154, [some (vr 135)], []) (MS I J cc ss) _
      refine ev_n (fr' := (162, [some (vr 135)], [vl (J 135 14), vl 10, vr 135])) (S' := MS I J cc ss) 4 rfl ?_
      refine ev_eql (h14) ?_
      show Ev X k_X9_next (162, [some (vr 135)], [vl z, vl 10, vr 135]) (MS I J cc ss) _
      refine ev_lmul (z := 10 * z) rfl (by omega) (by omega) (by omega) ?_
      show Ev X k_X9_next (163, [some (vr 135)], [vl (10 * z), vr 135]) (MS I J cc ss) _
      refine ev_n (fr' := (168, [some (vr 135)], [vi (I 135 9), vr 135, vl (10 * z), vr 135])) (S' := MS I J cc ss) 3 rfl ?_
      refine ev_eqi (h9) ?_
      show Ev X k_X9_next (168, [some (vr 135)], [vi (k : Int), vr 135, vl (10 * z), vr 135]) (MS I J cc ss) _
      refine ev_cv rfl rfl rfl ⟨Nat.le_of_ble_eq_true rfl, Nat.le_of_ble_eq_true rfl⟩ (sp_see X _ _ _ _ (tx := tx) (n := n) (hR.l hO) k) ?_
      show Ev X k_X9_next (171, [some (vr 135)], [vi (atF tx n k), vl (10 * z), vr 135]) (MS I J cc ss) _
      refine ev_n (fr' := (172, [some (vr 135)], [vl (atF tx n k), vl (10 * z), vr 135])) (S' := MS I J cc ss) 1 rfl ?_
      refine ev_ladd (z := 10 * z + (atF tx n k)) rfl (by omega) (by omega) (by omega) ?_
      show Ev X k_X9_next (173, [some (vr 135)], [vl (10 * z + (atF tx n k)), vr 135]) (MS I J cc ss) _
      refine ev_n (fr' := (176, [some (vr 135)], [vl 48, vl (10 * z + (atF tx n k)), vr 135])) (S' := MS I J cc ss) 1 rfl ?_
      refine ev_lsub (z := 10 * z + (atF tx n k) - 48) rfl (by omega) (by omega) (by omega) ?_
      show Ev X k_X9_next (177, [some (vr 135)], [vl (10 * z + (atF tx n k) - 48), vr 135]) (MS I J cc ss) _
      refine ev_n (fr' := (180, [some (vr 135)], [])) (S' := MS I (up2 J 135 14 (10 * z + (atF tx n k) - 48)) cc ss) 1 rfl ?_
      refine ev_n (fr' := (185, [some (vr 135)], [vi (I 135 9), vr 135])) (S' := MS I (up2 J 135 14 (10 * z + (atF tx n k) - 48)) cc ss) 3 rfl ?_
      refine ev_eqi (h9) ?_
      show Ev X k_X9_next (185, [some (vr 135)], [vi (k : Int), vr 135]) (MS I (up2 J 135 14 (10 * z + (atF tx n k) - 48)) cc ss) _
      refine ev_n (fr' := (186, [some (vr 135)], [vi 1, vi (k : Int), vr 135])) (S' := MS I (up2 J 135 14 (10 * z + (atF tx n k) - 48)) cc ss) 1 rfl ?_
      refine ev_add (z := (k : Int) + 1) rfl (by omega) (by omega) (by omega) ?_
      show Ev X k_X9_next (187, [some (vr 135)], [vi ((k : Int) + 1), vr 135]) (MS I (up2 J 135 14 (10 * z + (atF tx n k) - 48)) cc ss) _
      refine ev_n (fr' := (190, [some (vr 135)], [])) (S' := MS (up2 I 135 9 ((k : Int) + 1)) (up2 J 135 14 (10 * z + (atF tx n k) - 48)) cc ss) 1 rfl ?_
      refine ev_n (fr' := (129, [some (vr 135)], [])) (S' := MS (up2 I 135 9 ((k : Int) + 1)) (up2 J 135 14 (10 * z + (atF tx n k) - 48)) cc ss) 1 rfl ?_
      have hq := atF_di.mp (by assumption : 48 ≤ atF tx n k ∧ atF tx n k ≤ 57)
      have hs : diF tx n k = diF tx n (k + 1) := scF_step hq.1 hq.2
      exact lp_nxd X _ _ cc ss I0 J0 hR ((hO.u (by omega)).j) ((up2_ne2 _ _ _ _ (by decide)).trans hw1) a hsp ha (k + 1) (by omega) ((up2_ne2 _ _ _ _ (by decide)).trans h8) (up2_same _ _ _ _) (hL.symm.trans hs).symm (nlt_succ2 hall hq.2) (by omega) _ (up2_same _ _ _ _) (by
        rw [show k + 1 - a = (k - a) + 1 by omega]
        show nOK _ (10 * nuF tx a (k - a) + (tx (a + (k - a)) - 48))
        rw [show a + (k - a) = k by omega]
        have ht := of_decide_eq_true hq.2
        rw [atF_in hq.1]; unfold nOK at *; omega)
termination_by n - k
decreasing_by all_goals omega
theorem lp_nxs (X : AX) (I J : Nat → Nat → Int) (cc ss : Nat) (I0 J0 : F2) {tx : F1} {n : Nat} (hR : RB I0 tx n) (hO : onlyL I0 I J0 J) (hw1 : I 135 11 = I0 135 11) (b a : Nat) (han : a ≤ n) (h8 : I 135 8 = (a : Int)) (hL : spF tx n a = spF tx n b) : Ev X k_X9_next (8, [some (vr 135)], []) (MS I J cc ss) (PV cc ss none (fun I' J' => TK I' J' tx n (spF tx n b) ∧ onlyL I0 I' J0 J' ∧ I' 135 11 = I0 135 11)) := by
  have h900 := hR.1
  refine ev_n (fr' := (13, [some (vr 135)], [vi (I 135 8), vr 135])) (S' := MS I J cc ss) 3 rfl ?_
  refine ev_eqi (h8) ?_
  show Ev X k_X9_next (13, [some (vr 135)], [vi (a : Int), vr 135]) (MS I J cc ss) _
  refine ev_cv rfl rfl rfl ⟨Nat.le_of_ble_eq_true rfl, Nat.le_of_ble_eq_true rfl⟩ (sp_see X _ _ _ _ (tx := tx) (n := n) (hR.l hO) a) ?_
  show Ev X k_X9_next (16, [some (vr 135)], [vi (atF tx n a)]) (MS I J cc ss) _
  refine ev_n (fr' := (18, [some (vr 135)], [vi 32, vi (atF tx n a)])) (S' := MS I J cc ss) 1 rfl ?_
  refine ev_ic (c := .ne) (off := 16) rfl (by decide) (fun (g1 : (atF tx n a) ≠ 32) => ?_) (fun (g1 : ¬ ((atF tx n a) ≠ 32)) => ?_)
  · show Ev X k_X9_next (34, [some (vr 135)], []) (MS I J cc ss) _
    have hsa : spF tx n a = a := by
      rcases Nat.lt_or_ge a n with h | h
      · refine scF_not ?_
        cases hb : isSp (tx a)
        · rfl
        · exact absurd (atF_sp.mpr ⟨h, hb⟩) (by assumption)
      · exact scF_end h
    rw [hsa] at hL
    rw [← hL]
    refine ev_n (fr' := (39, [some (vr 135)], [vi (I 135 8), vr 135])) (S' := MS I J cc ss) 3 rfl ?_
    refine ev_eqi (h8) ?_
    show Ev X k_X9_next (39, [some (vr 135)], [vi (a : Int), vr 135]) (MS I J cc ss) _
    refine ev_n (fr' := (42, [some (vr 135)], [])) (S' := MS (up2 I 135 9 (a : Int)) J cc ss) 1 rfl ?_
    refine ev_n (fr' := (46, [some (vr 135)], [vi (I 135 8)])) (S' := MS (up2 I 135 9 (a : Int)) J cc ss) 2 rfl ?_
    refine ev_eqi (h8) ?_
    show Ev X k_X9_next (46, [some (vr 135)], [vi (a : Int)]) (MS (up2 I 135 9 (a : Int)) J cc ss) _
    refine ev_n (fr' := (50, [some (vr 135)], [vi (I 135 7), vi (a : Int)])) (S' := MS (up2 I 135 9 (a : Int)) J cc ss) 2 rfl ?_
    refine ev_eqi ((hR.l hO).2.1) ?_
    show Ev X k_X9_next (50, [some (vr 135)], [vi (n : Int), vi (a : Int)]) (MS (up2 I 135 9 (a : Int)) J cc ss) _
    refine ev_ic (c := .lt) (off := 11) rfl (by decide) (fun (g2 : (a : Int) < (n : Int)) => ?_) (fun (g2 : ¬ ((a : Int) < (n : Int))) => ?_)
    · show Ev X k_X9_next (61, [some (vr 135)], []) (MS (up2 I 135 9 (a : Int)) J cc ss) _
      refine ev_n (fr' := (66, [some (vr 135)], [vi (I 135 8), vr 135])) (S' := MS (up2 I 135 9 (a : Int)) J cc ss) 3 rfl ?_
      refine ev_eqi (h8) ?_
      show Ev X k_X9_next (66, [some (vr 135)], [vi (a : Int), vr 135]) (MS (up2 I 135 9 (a : Int)) J cc ss) _
      refine ev_cv rfl rfl rfl ⟨Nat.le_of_ble_eq_true rfl, Nat.le_of_ble_eq_true rfl⟩ (sp_see X _ _ _ _ (tx := tx) (n := n) ((hR.l hO).u (by decide)) a) ?_
      show Ev X k_X9_next (69, [some (vr 135)], [vi (atF tx n a)]) (MS (up2 I 135 9 (a : Int)) J cc ss) _
      refine ev_cv rfl rfl rfl ⟨Nat.le_of_ble_eq_true rfl, Nat.le_of_ble_eq_true rfl⟩ (sp_isLetter X _ (atF tx n a) ) ?_
      show Ev X k_X9_next (72, [some (vr 135)], [vi (if 97 ≤ (atF tx n a) ∧ (atF tx n a) ≤ 122 then 1 else 0)]) (MS (up2 I 135 9 (a : Int)) J cc ss) _
      refine ev_beq _ rfl (by decide) (fun (g3 : ¬ (97 ≤ (atF tx n a) ∧ (atF tx n a) ≤ 122)) => ?_) (fun (g3 : 97 ≤ (atF tx n a) ∧ (atF tx n a) ≤ 122) => ?_)
      · show Ev X k_X9_next (110, [some (vr 135)], []) (MS (up2 I 135 9 (a : Int)) J cc ss) _
        refine ev_n (fr' := (115, [some (vr 135)], [vi (I 135 8), vr 135])) (S' := MS (up2 I 135 9 (a : Int)) J cc ss) 3 rfl ?_
        refine ev_eqi (h8) ?_
        show Ev X k_X9_next (115, [some (vr 135)], [vi (a : Int), vr 135]) (MS (up2 I 135 9 (a : Int)) J cc ss) _
        refine ev_cv rfl rfl rfl ⟨Nat.le_of_ble_eq_true rfl, Nat.le_of_ble_eq_true rfl⟩ (sp_see X _ _ _ _ (tx := tx) (n := n) ((hR.l hO).u (by decide)) a) ?_
        show Ev X k_X9_next (118, [some (vr 135)], [vi (atF tx n a)]) (MS (up2 I 135 9 (a : Int)) J cc ss) _
        refine ev_cv rfl rfl rfl ⟨Nat.le_of_ble_eq_true rfl, Nat.le_of_ble_eq_true rfl⟩ (sp_isDigit X _ (atF tx n a) ) ?_
        show Ev X k_X9_next (121, [some (vr 135)], [vi (if 48 ≤ (atF tx n a) ∧ (atF tx n a) ≤ 57 then 1 else 0)]) (MS (up2 I 135 9 (a : Int)) J cc ss) _
        refine ev_beq _ rfl (by decide) (fun (g4 : ¬ (48 ≤ (atF tx n a) ∧ (atF tx n a) ≤ 57)) => ?_) (fun (g4 : 48 ≤ (atF tx n a) ∧ (atF tx n a) ≤ 57) => ?_)
        · show Ev X k_X9_next (201, [some (vr 135)], []) (MS (up2 I 135 9 (a : Int)) J cc ss) _
          refine ev_n (fr' := (207, [some (vr 135)], [vi 1, vi (a : Int), vr 135])) (S' := MS (up2 I 135 9 (a : Int)) J cc ss) 4 rfl ?_
          refine ev_add (z := (a : Int) + 1) rfl (by omega) (by omega) (by omega) ?_
          show Ev X k_X9_next (208, [some (vr 135)], [vi ((a : Int) + 1), vr 135]) (MS (up2 I 135 9 (a : Int)) J cc ss) _
          refine ev_n (fr' := (211, [some (vr 135)], [])) (S' := MS (up2 (up2 I 135 9 (a : Int)) 135 9 ((a : Int) + 1)) J cc ss) 1 rfl ?_
          refine ev_n (fr' := (213, [some (vr 135)], [vi 2, vr 135])) (S' := MS (up2 (up2 I 135 9 (a : Int)) 135 9 ((a : Int) + 1)) J cc ss) 2 rfl ?_
          refine ev_n (fr' := (216, [some (vr 135)], [])) (S' := MS (up2 (up2 (up2 I 135 9 (a : Int)) 135 9 ((a : Int) + 1)) 135 10 2) J cc ss) 1 rfl ?_
          refine ev_r rfl rfl rfl ?_
          have hk2 : a < n ∧ isLe (tx a) = false ∧ isDi (tx a) = false := ⟨by omega, by
            cases hb : isLe (tx a)
            · rfl
            · exact absurd ((atF_le (tx := tx) (n := n) (i := a)).mpr ⟨by omega, hb⟩) (by assumption), by
            cases hb : isDi (tx a)
            · rfl
            · exact absurd ((atF_di (tx := tx) (n := n) (i := a)).mpr ⟨by omega, hb⟩) (by assumption)⟩
          have hk0 := kd_2.mpr hk2
          exact ⟨_, _, rfl, rfl, ⟨by omega, hsa, by rw [up2_ne2 _ _ _ _ (by decide), up2_ne2 _ _ _ _ (by decide), up2_ne2 _ _ _ _ (by decide)]; exact h8, by rw [up2_ne2 _ _ _ _ (by decide), up2_same, en_2 hk2]; omega, (up2_same _ _ _ _).trans hk0.symm, fun q => absurd (hk0.symm.trans q) (by decide)⟩, ((hO.u (by omega)).u (by omega)).u (by omega), by rw [up2_ne2 _ _ _ _ (by decide), up2_ne2 _ _ _ _ (by decide), up2_ne2 _ _ _ _ (by decide)]; exact hw1⟩
        · show Ev X k_X9_next (124, [some (vr 135)], []) (MS (up2 I 135 9 (a : Int)) J cc ss) _
          refine ev_n (fr' := (126, [some (vr 135)], [vl 0, vr 135])) (S' := MS (up2 I 135 9 (a : Int)) J cc ss) 2 rfl ?_
          refine ev_n (fr' := (129, [some (vr 135)], [])) (S' := MS (up2 I 135 9 (a : Int)) (up2 J 135 14 0) cc ss) 1 rfl ?_
          exact lp_nxd X _ _ cc ss I0 J0 hR ((hO.u (by omega)).j) ((up2_ne2 _ _ _ _ (by decide)).trans hw1) a hsa (atF_di.mp (by assumption)) a (by omega) ((up2_ne2 _ _ _ _ (by decide)).trans h8) (up2_same _ _ _ _) rfl (fun j h1 h2 => absurd h1 (by omega)) (Nat.le_refl _) 0 (up2_same _ _ _ _) (by rw [Nat.sub_self]; exact ⟨by decide, by decide, Or.inl rfl⟩)
      · show Ev X k_X9_next (75, [some (vr 135)], []) (MS (up2 I 135 9 (a : Int)) J cc ss) _
        exact lp_nxw X _ _ cc ss I0 J0 hR (hO.u (by omega)) ((up2_ne2 _ _ _ _ (by decide)).trans hw1) a hsa (atF_le.mp (by assumption)) a (by omega) ((up2_ne2 _ _ _ _ (by decide)).trans h8) (up2_same _ _ _ _) rfl
    · show Ev X k_X9_next (53, [some (vr 135)], []) (MS (up2 I 135 9 (a : Int)) J cc ss) _
      refine ev_n (fr' := (55, [some (vr 135)], [vi 3, vr 135])) (S' := MS (up2 I 135 9 (a : Int)) J cc ss) 2 rfl ?_
      refine ev_n (fr' := (58, [some (vr 135)], [])) (S' := MS (up2 (up2 I 135 9 (a : Int)) 135 10 3) J cc ss) 1 rfl ?_
      refine ev_n (fr' := (216, [some (vr 135)], [])) (S' := MS (up2 (up2 I 135 9 (a : Int)) 135 10 3) J cc ss) 1 rfl ?_
      refine ev_r rfl rfl rfl ?_
      have hk0 := (kd_3 (tx := tx)).mpr (show n ≤ a by omega)
      exact ⟨_, _, rfl, rfl, ⟨by omega, hsa, by rw [up2_ne2 _ _ _ _ (by decide), up2_ne2 _ _ _ _ (by decide)]; exact h8, by rw [up2_ne2 _ _ _ _ (by decide), up2_same, en_3 (by omega)], (up2_same _ _ _ _).trans hk0.symm, fun q => absurd (hk0.symm.trans q) (by decide)⟩, (hO.u (by omega)).u (by omega), by rw [up2_ne2 _ _ _ _ (by decide), up2_ne2 _ _ _ _ (by decide)]; exact hw1⟩
  · show Ev X k_X9_next (21, [some (vr 135)], []) (MS I J cc ss) _
    refine ev_n (fr' := (26, [some (vr 135)], [vi (I 135 8), vr 135])) (S' := MS I J cc ss) 3 rfl ?_
    refine ev_eqi (h8) ?_
    show Ev X k_X9_next (26, [some (vr 135)], [vi (a : Int), vr 135]) (MS I J cc ss) _
    refine ev_n (fr' := (27, [some (vr 135)], [vi 1, vi (a : Int), vr 135])) (S' := MS I J cc ss) 1 rfl ?_
    refine ev_add (z := (a : Int) + 1) rfl (by omega) (by omega) (by omega) ?_
    show Ev X k_X9_next (28, [some (vr 135)], [vi ((a : Int) + 1), vr 135]) (MS I J cc ss) _
    refine ev_n (fr' := (31, [some (vr 135)], [])) (S' := MS (up2 I 135 8 ((a : Int) + 1)) J cc ss) 1 rfl ?_
    refine ev_n (fr' := (8, [some (vr 135)], [])) (S' := MS (up2 I 135 8 ((a : Int) + 1)) J cc ss) 1 rfl ?_
    have hq := atF_sp.mp (Decidable.of_not_not g1)
    have hs : spF tx n a = spF tx n (a + 1) := scF_step hq.1 hq.2
    exact lp_nxs X _ _ cc ss I0 J0 hR (hO.u (by omega)) ((up2_ne2 _ _ _ _ (by decide)).trans hw1) b (a + 1) (by omega) (up2_same _ _ _ _) (hL.symm.trans hs).symm
termination_by n - a
decreasing_by all_goals omega
theorem sp_next (X : AX) (I J : Nat → Nat → Int) (cc ss : Nat) {tx : F1} {n : Nat} (hR : RB I tx n) (b : Nat) (hbn : b ≤ n) (h9 : I 135 9 = (b : Int)) : Ev X k_X9_next (0, [some (vr 135)], []) (MS I J cc ss) (PV cc ss none (fun I' J' => TK I' J' tx n (spF tx n b) ∧ onlyL I I' J J' ∧ I' 135 11 = I 135 11)) := by
  refine ev_n (fr' := (5, [some (vr 135)], [vi (I 135 9), vr 135])) (S' := MS I J cc ss) 3 rfl ?_
  refine ev_eqi (h9) ?_
  show Ev X k_X9_next (5, [some (vr 135)], [vi (b : Int), vr 135]) (MS I J cc ss) _
  refine ev_n (fr' := (8, [some (vr 135)], [])) (S' := MS (up2 I 135 8 (b : Int)) J cc ss) 1 rfl ?_
  exact lp_nxs X _ _ cc ss I J hR ((onlyL.refl _ _).u (by omega)) (up2_ne2 _ _ _ _ (by decide)) b b hbn (up2_same _ _ _ _) rfl
