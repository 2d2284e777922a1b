/-! THE LAW'S LOOP (printed by gen/g98o.py) -/
theorem and63 (z : Int) : ∃ k : Nat, k < 64 ∧ opI (· &&& ·) z 63 = (k : Int) := by
  have h1 := opI_rng (· &&& ·) z 63
  have h2 := u_and z 63
  have h3 : uN32 z &&& uN32 63 ≤ 63 := Nat.le_trans Nat.and_le_right (by decide)
  rw [← h2] at h3
  unfold uN32 in32 at *
  exact ⟨(opI (· &&& ·) z 63).toNat, by omega, by omega⟩
set_option maxRecDepth 100000 in
noncomputable def cl_loop : List (Nat × AI) := [(23, .iload 4, 2, (0, 0, 0)), (25, .aload_n 0, 1, (0, 0, 0)), (26, .arraylength, 1, (0, 0, 0)), (27, .bipush 6, 2, (0, 0, 0)), (29, .isub, 1, (0, 0, 0)), (30, .if_icmp .gt 2648, 3, (0, 0, 0)), (33, .aload_n 0, 1, (0, 0, 0)), (34, .iload 4, 2, (0, 0, 0)), (36, .iaload, 1, (0, 0, 0)), (37, .bipush 63, 2, (0, 0, 0)), (39, .iand, 1, (0, 0, 0)), (40, .tableswitch 2632 0 34 #[156, 260, 316, 329, 385, 441, 497, 565, 633, 701, 758, 826, 906, 998, 1090, 1182, 1250, 1307, 1363, 1443, 1535, 1627, 1695, 1794, 1874, 1977, 2057, 2137, 2200, 2256, 2340, 2396, 2464, 2532, 2588], 156, (0, 0, 0)), (2672, .iinc 4 6, 3, (0, 0, 0)), (2675, .goto (-2652), 3, (0, 0, 0)), (2678, .iconst 1, 1, (0, 0, 0)), (2679, .ireturn, 1, (1, 0, 0))]
set_option maxRecDepth 100000 in
theorem ck_loop : lkS cl_loop k_L_law := lkS_of (by decide +kernel)
set_option maxRecDepth 100000 in
set_option maxHeartbeats 4000000 in
theorem lp_law (X : AX) (h72 : X.1 ≤ 3072) (I J : F2) (cc ss i : Nat) (v5 v6 : Option AV) (hI : INV I J) (hc9 : cc + (X.1 - i) ≤ 601024) (hs9 : ss + 6 * (X.1 - i) ≤ 7293034) : Ev X k_L_law (23, [some (vr 1000000), some (vr 0), some (vr 135), some (vr 145), some (vi (i : Int)), v5, v6], []) (MS I J cc ss) ((fun o T => o = .inl (some (vi 1)) ∧ T.2.2.1 ≤ 601024 ∧ T.2.2.2 ≤ 7293034)) := by
  have hC := ck_loop
  refine ev_nL hC (fr' := (29, [some (vr 1000000), some (vr 0), some (vr 135), some (vr 145), some (vi (i : Int)), v5, v6], [vi 6, vi (X.1 : Int), vi (i : Int)])) (S' := MS I J cc ss) 4 rfl ?_
  refine ev_sub (z := (X.1 : Int) - 6) (hC _ _ rfl) (by omega) (by omega) (by omega) ?_
  show Ev X k_L_law (30, [some (vr 1000000), some (vr 0), some (vr 135), some (vr 145), some (vi (i : Int)), v5, v6], [vi ((X.1 : Int) - 6), vi (i : Int)]) (MS I J cc ss) _
  refine ev_ic (c := .gt) (off := 2648) (hC _ _ rfl) (by decide) (fun (g1 : (X.1 : Int) - 6 < (i : Int)) => ?_) (fun (g1 : ¬ ((X.1 : Int) - 6 < (i : Int))) => ?_)
  · show Ev X k_L_law (2678, [some (vr 1000000), some (vr 0), some (vr 135), some (vr 145), some (vi (i : Int)), v5, v6], []) (MS I J cc ss) _
    refine ev_nL hC (fr' := (2679, [some (vr 1000000), some (vr 0), some (vr 135), some (vr 145), some (vi (i : Int)), v5, v6], [vi 1])) (S' := MS I J cc ss) 1 rfl ?_
    refine ev_r (hC _ _ rfl) rfl rfl ?_
    exact ⟨rfl, by show cc ≤ 601024; omega, by show ss ≤ 7293034; omega⟩
  · show Ev X k_L_law (33, [some (vr 1000000), some (vr 0), some (vr 135), some (vr 145), some (vi (i : Int)), v5, v6], []) (MS I J cc ss) _
    refine ev_nL hC (fr' := (36, [some (vr 1000000), some (vr 0), some (vr 135), some (vr 145), some (vi (i : Int)), v5, v6], [vi (i : Int), vr 1000000])) (S' := MS I J cc ss) 2 rfl ?_
    refine ev_xsN (j := i) (hC _ _ rfl) rfl (by omega) (by omega) rfl ?_
    show Ev X k_L_law (37, [some (vr 1000000), some (vr 0), some (vr 135), some (vr 145), some (vi (i : Int)), v5, v6], [vi (X.2 i)]) (MS I J cc ss) _
    refine ev_nL hC (fr' := (40, [some (vr 1000000), some (vr 0), some (vr 135), some (vr 145), some (vi (i : Int)), v5, v6], [vi (opI (· &&& ·) (X.2 i) 63)])) (S' := MS I J cc ss) 2 rfl ?_
    obtain ⟨k, hk, ek⟩ := and63 (X.2 i)
    refine ev_eqi ek ?_
    show Ev X k_L_law (40, [some (vr 1000000), some (vr 0), some (vr 135), some (vr 145), some (vi (i : Int)), v5, v6], [vi (k : Int)]) (MS I J cc ss) _
    have K : ∀ I' J' c v5 v6, c ≤ 1 → INV I' J' → Ev X k_L_law (2672, [some (vr 1000000), some (vr 0), some (vr 135), some (vr 145), some (vi (i : Int)), v5, v6], []) (MS I' J' (cc + c) (ss + 6 * c)) (fun o T => o = .inl (some (vi 1)) ∧ T.2.2.1 ≤ 601024 ∧ T.2.2.2 ≤ 7293034) := by
      intro I1 J1 c w5 w6 hc hI1
      refine ev_inc (z := (i : Int) + 6) (hC _ _ rfl) rfl (by omega) (by omega) (by omega) rfl ?_
      show Ev X k_L_law (2675, [some (vr 1000000), some (vr 0), some (vr 135), some (vr 145), some (vi ((i : Int) + 6)), w5, w6], []) (MS I1 J1 (cc + c) (ss + 6 * c)) _
      refine ev_go (t := 23) (hC _ _ rfl) (by decide) ?_
      show Ev X k_L_law (23, [some (vr 1000000), some (vr 0), some (vr 135), some (vr 145), some (vi ((i : Int) + 6)), w5, w6], []) (MS I1 J1 (cc + c) (ss + 6 * c)) _
      exact lp_law X h72 I1 J1 _ _ (i + 6) w5 w6 hI1 (by omega) (by omega)
    by_cases e0 : k = 0
    · subst e0
      refine ev_nL hC (fr' := (196, [some (vr 1000000), some (vr 0), some (vr 135), some (vr 145), some (vi (i : Int)), v5, v6], [])) (S' := MS I J cc ss) 1 rfl ?_
      exact lw_append X I J cc ss i (by omega) h72 v5 v6 (tw_append X I J cc ss _ _ _ _ _ hI) K
    by_cases e1 : k = 1
    · subst e1
      refine ev_nL hC (fr' := (300, [some (vr 1000000), some (vr 0), some (vr 135), some (vr 145), some (vi (i : Int)), v5, v6], [])) (S' := MS I J cc ss) 1 rfl ?_
      exact lw_load X I J cc ss i (by omega) h72 v5 v6 (tw_load X I J cc ss _ hI) K
    by_cases e2 : k = 2
    · subst e2
      refine ev_nL hC (fr' := (356, [some (vr 1000000), some (vr 0), some (vr 135), some (vr 145), some (vi (i : Int)), v5, v6], [])) (S' := MS I J cc ss) 1 rfl ?_
      exact lw_errorPosition X I J cc ss i (by omega) h72 v5 v6 hI K
    by_cases e3 : k = 3
    · subst e3
      refine ev_nL hC (fr' := (369, [some (vr 1000000), some (vr 0), some (vr 135), some (vr 145), some (vi (i : Int)), v5, v6], [])) (S' := MS I J cc ss) 1 rfl ?_
      exact lw_count X I J cc ss i (by omega) h72 v5 v6 (tw_count X I J cc ss _ hI) K
    by_cases e4 : k = 4
    · subst e4
      refine ev_nL hC (fr' := (425, [some (vr 1000000), some (vr 0), some (vr 135), some (vr 145), some (vi (i : Int)), v5, v6], [])) (S' := MS I J cc ss) 1 rfl ?_
      exact lw_addSize X I J cc ss i (by omega) h72 v5 v6 (tw_addSize X I J cc ss _ hI) K
    by_cases e5 : k = 5
    · subst e5
      refine ev_nL hC (fr' := (481, [some (vr 1000000), some (vr 0), some (vr 135), some (vr 145), some (vi (i : Int)), v5, v6], [])) (S' := MS I J cc ss) 1 rfl ?_
      exact lw_removeSize X I J cc ss i (by omega) h72 v5 v6 (tw_removeSize X I J cc ss _ hI) K
    by_cases e6 : k = 6
    · subst e6
      refine ev_nL hC (fr' := (537, [some (vr 1000000), some (vr 0), some (vr 135), some (vr 145), some (vi (i : Int)), v5, v6], [])) (S' := MS I J cc ss) 1 rfl ?_
      exact lw_size X I J cc ss i (by omega) h72 v5 v6 (tw_size X I J cc ss _ _ hI) K
    by_cases e7 : k = 7
    · subst e7
      refine ev_nL hC (fr' := (605, [some (vr 1000000), some (vr 0), some (vr 135), some (vr 145), some (vi (i : Int)), v5, v6], [])) (S' := MS I J cc ss) 1 rfl ?_
      exact lw_setExtra X I J cc ss i (by omega) h72 v5 v6 (tw_setExtra X I J cc ss _ _ hI) K
    by_cases e8 : k = 8
    · subst e8
      refine ev_nL hC (fr' := (673, [some (vr 1000000), some (vr 0), some (vr 135), some (vr 145), some (vi (i : Int)), v5, v6], [])) (S' := MS I J cc ss) 1 rfl ?_
      exact lw_stroke X I J cc ss i (by omega) h72 v5 v6 (tw_stroke X I J cc ss _ _ hI) K
    by_cases e9 : k = 9
    · subst e9
      refine ev_nL hC (fr' := (741, [some (vr 1000000), some (vr 0), some (vr 135), some (vr 145), some (vi (i : Int)), v5, v6], [])) (S' := MS I J cc ss) 1 rfl ?_
      have hI9 := hI
      obtain ⟨g, hs, m, tx, fl, n9, e9, D, h⟩ := hI9
      have hw6 := h.hw.2.1.1
      have hw8 := h.hw.2.2.1
      exact lw_findPart X I J cc ss i (by omega) h72 v5 v6 (fun x => fnd (fun r => g (r + 461)) x (g 11).toNat 0) hI (fun x => pb_findPart X _ _ _ _ x h.hR.1 h.hR.2.1 h.hR.2.2 h.hw.1 h.hw.2.1 h.hw.2.2) (fun x I1 h1 => rb_findPart X _ _ _ _ x (g 11).toNat h.hg h.hw.1 h.hw.2.1 h.hw.2.2 (by omega)) K
    by_cases e10 : k = 10
    · subst e10
      refine ev_nL hC (fr' := (798, [some (vr 1000000), some (vr 0), some (vr 135), some (vr 145), some (vi (i : Int)), v5, v6], [])) (S' := MS I J cc ss) 1 rfl ?_
      exact lw_part X I J cc ss i (by omega) h72 v5 v6 (tw_part X I J cc ss _ _ hI) K
    by_cases e11 : k = 11
    · subst e11
      refine ev_nL hC (fr' := (866, [some (vr 1000000), some (vr 0), some (vr 135), some (vr 145), some (vi (i : Int)), v5, v6], [])) (S' := MS I J cc ss) 1 rfl ?_
      exact lw_shape X I J cc ss i (by omega) h72 v5 v6 (tw_shape X I J cc ss _ _ _ hI) K
    by_cases e12 : k = 12
    · subst e12
      refine ev_nL hC (fr' := (946, [some (vr 1000000), some (vr 0), some (vr 135), some (vr 145), some (vi (i : Int)), v5, v6], [])) (S' := MS I J cc ss) 1 rfl ?_
      exact lw_setShape X I J cc ss i (by omega) h72 v5 v6 (tw_setShape X I J cc ss _ _ _ _ hI) K
    by_cases e13 : k = 13
    · subst e13
      refine ev_nL hC (fr' := (1038, [some (vr 1000000), some (vr 0), some (vr 135), some (vr 145), some (vi (i : Int)), v5, v6], [])) (S' := MS I J cc ss) 1 rfl ?_
      exact lw_moveShape X I J cc ss i (by omega) h72 v5 v6 (tw_moveShape X I J cc ss _ _ _ _ hI) K
    by_cases e14 : k = 14
    · subst e14
      refine ev_nL hC (fr' := (1130, [some (vr 1000000), some (vr 0), some (vr 135), some (vr 145), some (vi (i : Int)), v5, v6], [])) (S' := MS I J cc ss) 1 rfl ?_
      exact lw_copyShape X I J cc ss i (by omega) h72 v5 v6 (tw_copyShape X I J cc ss _ _ _ _ hI) K
    by_cases e15 : k = 15
    · subst e15
      refine ev_nL hC (fr' := (1222, [some (vr 1000000), some (vr 0), some (vr 135), some (vr 145), some (vi (i : Int)), v5, v6], [])) (S' := MS I J cc ss) 1 rfl ?_
      exact lw_removeShape X I J cc ss i (by omega) h72 v5 v6 (tw_removeShape X I J cc ss _ _ hI) K
    by_cases e16 : k = 16
    · subst e16
      refine ev_nL hC (fr' := (1290, [some (vr 1000000), some (vr 0), some (vr 135), some (vr 145), some (vi (i : Int)), v5, v6], [])) (S' := MS I J cc ss) 1 rfl ?_
      have hI9 := hI
      obtain ⟨g, hs, m, tx, fl, n9, e9, D, h⟩ := hI9
      have hw6 := h.hw.2.1.1
      have hw8 := h.hw.2.2.1
      exact lw_findIcon X I J cc ss i (by omega) h72 v5 v6 (fun x => fnd (fun r => g (r + 469)) x (g 308).toNat 0) hI (fun x => pb_findIcon X _ _ _ _ x h.hR.1 h.hR.2.1 h.hR.2.2 h.hw.1 h.hw.2.1 h.hw.2.2) (fun x I1 h1 => rb_findIcon X _ _ _ _ x (g 308).toNat h.hg h.hw.1 h.hw.2.1 h.hw.2.2 (by omega)) K
    by_cases e17 : k = 17
    · subst e17
      refine ev_nL hC (fr' := (1347, [some (vr 1000000), some (vr 0), some (vr 135), some (vr 145), some (vi (i : Int)), v5, v6], [])) (S' := MS I J cc ss) 1 rfl ?_
      exact lw_uses X I J cc ss i (by omega) h72 v5 v6 (tw_uses X I J cc ss _ hI) K
    by_cases e18 : k = 18
    · subst e18
      refine ev_nL hC (fr' := (1403, [some (vr 1000000), some (vr 0), some (vr 135), some (vr 145), some (vi (i : Int)), v5, v6], [])) (S' := MS I J cc ss) 1 rfl ?_
      exact lw_use X I J cc ss i (by omega) h72 v5 v6 (tw_use X I J cc ss _ _ _ hI) K
    by_cases e19 : k = 19
    · subst e19
      refine ev_nL hC (fr' := (1483, [some (vr 1000000), some (vr 0), some (vr 135), some (vr 145), some (vi (i : Int)), v5, v6], [])) (S' := MS I J cc ss) 1 rfl ?_
      exact lw_addUse X I J cc ss i (by omega) h72 v5 v6 (tw_addUse X I J cc ss _ _ _ _ hI) K
    by_cases e20 : k = 20
    · subst e20
      refine ev_nL hC (fr' := (1575, [some (vr 1000000), some (vr 0), some (vr 135), some (vr 145), some (vi (i : Int)), v5, v6], [])) (S' := MS I J cc ss) 1 rfl ?_
      exact lw_moveUse X I J cc ss i (by omega) h72 v5 v6 (tw_moveUse X I J cc ss _ _ _ _ hI) K
    by_cases e21 : k = 21
    · subst e21
      refine ev_nL hC (fr' := (1667, [some (vr 1000000), some (vr 0), some (vr 135), some (vr 145), some (vi (i : Int)), v5, v6], [])) (S' := MS I J cc ss) 1 rfl ?_
      exact lw_removeUse X I J cc ss i (by omega) h72 v5 v6 (tw_removeUse X I J cc ss _ _ hI) K
    by_cases e22 : k = 22
    · subst e22
      refine ev_nL hC (fr' := (1735, [some (vr 1000000), some (vr 0), some (vr 135), some (vr 145), some (vi (i : Int)), v5, v6], [])) (S' := MS I J cc ss) 1 rfl ?_
      exact lw_isInked X I J cc ss i (by omega) h72 v5 v6 (tw_isInked X I J cc ss _ _ _ _ hI) K
    by_cases e23 : k = 23
    · subst e23
      refine ev_nL hC (fr' := (1834, [some (vr 1000000), some (vr 0), some (vr 135), some (vr 145), some (vi (i : Int)), v5, v6], [])) (S' := MS I J cc ss) 1 rfl ?_
      exact lw_measure X I J cc ss i (by omega) h72 v5 v6 (tw_measure X I J cc ss _ _ _ hI) K
    by_cases e24 : k = 24
    · subst e24
      refine ev_nL hC (fr' := (1914, [some (vr 1000000), some (vr 0), some (vr 135), some (vr 145), some (vi (i : Int)), v5, v6], [])) (S' := MS I J cc ss) 1 rfl ?_
      by_cases hb : X.2 (i + 3) = 0
      · exact lw_isMirrored_0 X I J cc ss i (by omega) h72 v5 v6 hb (tw_isMirrored_0 X I J cc ss _ _ hI) K
      · exact lw_isMirrored_1 X I J cc ss i (by omega) h72 v5 v6 hb (tw_isMirrored_1 X I J cc ss _ _ hI) K
    by_cases e25 : k = 25
    · subst e25
      refine ev_nL hC (fr' := (2017, [some (vr 1000000), some (vr 0), some (vr 135), some (vr 145), some (vi (i : Int)), v5, v6], [])) (S' := MS I J cc ss) 1 rfl ?_
      exact lw_difference X I J cc ss i (by omega) h72 v5 v6 (tw_difference X I J cc ss _ _ _ hI) K
    by_cases e26 : k = 26
    · subst e26
      refine ev_nL hC (fr' := (2097, [some (vr 1000000), some (vr 0), some (vr 135), some (vr 145), some (vi (i : Int)), v5, v6], [])) (S' := MS I J cc ss) 1 rfl ?_
      exact lw_alone X I J cc ss i (by omega) h72 v5 v6 (tw_alone X I J cc ss _ _ _ hI) K
    by_cases e27 : k = 27
    · subst e27
      refine ev_nL hC (fr' := (2177, [some (vr 1000000), some (vr 0), some (vr 135), some (vr 145), some (vi (i : Int)), v5, v6], [])) (S' := MS I J cc ss) 1 rfl ?_
      exact lw_keepsTopology X I J cc ss i (by omega) h72 v5 v6 (tw_keepsTopology X I J cc ss _ hI) K
    by_cases e28 : k = 28
    · subst e28
      refine ev_nL hC (fr' := (2240, [some (vr 1000000), some (vr 0), some (vr 135), some (vr 145), some (vi (i : Int)), v5, v6], [])) (S' := MS I J cc ss) 1 rfl ?_
      exact lw_smallest X I J cc ss i (by omega) h72 v5 v6 (tw_smallest X I J cc ss _ hI) K
    by_cases e29 : k = 29
    · subst e29
      refine ev_nL hC (fr' := (2296, [some (vr 1000000), some (vr 0), some (vr 135), some (vr 145), some (vi (i : Int)), v5, v6], [])) (S' := MS I J cc ss) 1 rfl ?_
      by_cases hb : X.2 (i + 2) = 0
      · exact lw_extreme_0 X I J cc ss i (by omega) h72 v5 v6 hb (tw_extreme_0 X I J cc ss _ hI) K
      · exact lw_extreme_1 X I J cc ss i (by omega) h72 v5 v6 hb (tw_extreme_1 X I J cc ss _ hI) K
    by_cases e30 : k = 30
    · subst e30
      refine ev_nL hC (fr' := (2380, [some (vr 1000000), some (vr 0), some (vr 135), some (vr 145), some (vi (i : Int)), v5, v6], [])) (S' := MS I J cc ss) 1 rfl ?_
      exact lw_bestExtra X I J cc ss i (by omega) h72 v5 v6 (tw_bestExtra X I J cc ss _ hI) K
    by_cases e31 : k = 31
    · subst e31
      refine ev_nL hC (fr' := (2436, [some (vr 1000000), some (vr 0), some (vr 135), some (vr 145), some (vi (i : Int)), v5, v6], [])) (S' := MS I J cc ss) 1 rfl ?_
      exact lw_indifferent X I J cc ss i (by omega) h72 v5 v6 (tw_indifferent X I J cc ss _ _ hI) K
    by_cases e32 : k = 32
    · subst e32
      refine ev_nL hC (fr' := (2504, [some (vr 1000000), some (vr 0), some (vr 135), some (vr 145), some (vi (i : Int)), v5, v6], [])) (S' := MS I J cc ss) 1 rfl ?_
      exact lw_writeIcon X I J cc ss i (by omega) h72 v5 v6 (tw_writeIcon X I J cc ss _ _ hI) K
    by_cases e33 : k = 33
    · subst e33
      refine ev_nL hC (fr' := (2572, [some (vr 1000000), some (vr 0), some (vr 135), some (vr 145), some (vi (i : Int)), v5, v6], [])) (S' := MS I J cc ss) 1 rfl ?_
      exact lw_writtenByte X I J cc ss i (by omega) h72 v5 v6 (tw_writtenByte X I J cc ss _ hI) K
    by_cases e34 : k = 34
    · subst e34
      refine ev_nL hC (fr' := (2628, [some (vr 1000000), some (vr 0), some (vr 135), some (vr 145), some (vi (i : Int)), v5, v6], [])) (S' := MS I J cc ss) 1 rfl ?_
      exact lw_undo X I J cc ss i (by omega) h72 v5 v6 (tw_undo X I J cc ss  hI) K
    have hk2 : k = 35 ∨ k = 36 ∨ k = 37 ∨ k = 38 ∨ k = 39 ∨ k = 40 ∨ k = 41 ∨ k = 42 ∨ k = 43 ∨ k = 44 ∨ k = 45 ∨ k = 46 ∨ k = 47 ∨ k = 48 ∨ k = 49 ∨ k = 50 ∨ k = 51 ∨ k = 52 ∨ k = 53 ∨ k = 54 ∨ k = 55 ∨ k = 56 ∨ k = 57 ∨ k = 58 ∨ k = 59 ∨ k = 60 ∨ k = 61 ∨ k = 62 ∨ k = 63 := by omega
    have hK := K I J 0 v5 v6 (Nat.zero_le _) hI
    rcases hk2 with rfl | rfl | rfl | rfl | rfl | rfl | rfl | rfl | rfl | rfl | rfl | rfl | rfl | rfl | rfl | rfl | rfl | rfl | rfl | rfl | rfl | rfl | rfl | rfl | rfl | rfl | rfl | rfl | rfl <;> exact ev_nL hC (fr' := (2672, [some (vr 1000000), some (vr 0), some (vr 135), some (vr 145), some (vi (i : Int)), v5, v6], [])) (S' := MS I J cc ss) 1 rfl hK
termination_by X.1 - i
decreasing_by all_goals omega
