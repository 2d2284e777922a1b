/-! ONE CALL OF THE LAW (printed by gen/g98k.py) -/
def lkS (C : List (Nat × AI)) (k : Nat) : Prop := ∀ pc v, C.lookup pc = some v → cdAt k pc = some v
theorem lk_mem {α : Type} {v : α} {pc : Nat} : ∀ (C : List (Nat × α)), C.lookup pc = some v → (pc, v) ∈ C
  | [], h => nomatch h
  | (q, w) :: C, h => by
    rw [List.lookup_cons] at h
    by_cases e : (pc == q) = true
    · rw [e] at h; simp only [Option.some.injEq] at h
      have e2 : pc = q := by simpa using e
      rw [e2, h]; exact List.mem_cons_self
    · rw [show (pc == q) = false by simpa using e] at h; exact List.mem_cons_of_mem _ (lk_mem C h)
theorem lkS_of {C : List (Nat × AI)} {k : Nat} (h : C.all (fun e => decide (cdAt k e.1 = some e.2)) = true) : lkS C k := fun pc v hl => by
  have := List.all_eq_true.mp h _ (lk_mem C hl)
  simpa using this
noncomputable def sp1L (C : List (Nat × AI)) (X : AX) (fr : AF) (S : AS) : Option (AF × AS) := match C.lookup fr.1 with
  | none => none
  | some (I, len, ax) => match stp X I ax fr.2.1 fr.2.2 S with
    | some (ls', st', S') => some ((fr.1 + len, ls', st'), S')
    | none => match ctl I len ax fr S with
      | some (.inl r) => some r
      | _ => none
noncomputable def spsL (C : List (Nat × AI)) (X : AX) : Nat → AF → AS → Option (AF × AS)
  | 0, fr, S => some (fr, S)
  | n + 1, fr, S => match sp1L C X fr S with
    | some (fr', S') => spsL C X n fr' S'
    | none => none
theorem sp1L_ok {C : List (Nat × AI)} {k : Nat} (hC : lkS C k) {X : AX} {fr : AF} {S : AS} {r : AF × AS} (h : sp1L C X fr S = some r) : sp1 X k fr S = some r := by
  unfold sp1L at h
  unfold sp1
  cases hl : C.lookup fr.1 with
  | none => rw [hl] at h; cases h
  | some v => rw [hl] at h; rw [hC _ _ hl]; exact h
theorem ev_nL {C : List (Nat × AI)} {k : Nat} (hC : lkS C k) {X : AX} {Q : (Option AV ⊕ Nat) → AS → Prop} : ∀ (n : Nat) {fr fr' : AF} {S S' : AS}, spsL C X n fr S = some (fr', S') → Ev X k fr' S' Q → Ev X k fr S Q
  | 0, _, _, _, _, h, he => by cases h; exact he
  | n + 1, fr, fr', S, S', h, he => by
    unfold spsL at h
    split at h
    · next fr1 S1 h1 => exact ev_1 (sp1L_ok hC h1) (ev_nL hC n h he)
    · cases h
theorem sp_thrown (X : AX) (I J : Nat → Nat → Int) (cc ss : Nat) {t : Int} (h : I 135 4 = t) : Ev X k_X9_thrown (0, [some (vr 135)], []) (MS I J cc ss) (fun o T => o = .inl (some (vi t)) ∧ T = MS I J cc ss) := by
  subst h
  refine ev_n (fr' := (4, [some (vr 135)], [vi (I 135 4)])) (S' := MS I J cc ss) 2 rfl ?_
  refine ev_r rfl rfl rfl ?_
  exact ⟨rfl, rfl⟩
set_option maxRecDepth 100000 in
noncomputable def cl_append : List (Nat × AI) := [(196, .aload_n 1, 1, (0, 0, 0)), (197, .aload_n 0, 1, (0, 0, 0)), (198, .iload 4, 2, (0, 0, 0)), (200, .iconst 1, 1, (0, 0, 0)), (201, .iadd, 1, (0, 0, 0)), (202, .iaload, 1, (0, 0, 0)), (203, .aload_n 0, 1, (0, 0, 0)), (204, .iload 4, 2, (0, 0, 0)), (206, .iconst 2, 1, (0, 0, 0)), (207, .iadd, 1, (0, 0, 0)), (208, .iaload, 1, (0, 0, 0)), (209, .aload_n 0, 1, (0, 0, 0)), (210, .iload 4, 2, (0, 0, 0)), (212, .iconst 3, 1, (0, 0, 0)), (213, .iadd, 1, (0, 0, 0)), (214, .iaload, 1, (0, 0, 0)), (215, .aload_n 0, 1, (0, 0, 0)), (216, .iload 4, 2, (0, 0, 0)), (218, .iconst 4, 1, (0, 0, 0)), (219, .iadd, 1, (0, 0, 0)), (220, .iaload, 1, (0, 0, 0)), (221, .aload_n 0, 1, (0, 0, 0)), (222, .iload 4, 2, (0, 0, 0)), (224, .iconst 5, 1, (0, 0, 0)), (225, .iadd, 1, (0, 0, 0)), (226, .iaload, 1, (0, 0, 0)), (227, .aload_n 3, 1, (0, 0, 0)), (228, .invokestatic 127, 3, (10, 250, 7)), (231, .istore 5, 2, (0, 0, 0)), (233, .aload_n 2, 1, (0, 0, 0)), (234, .aload_n 0, 1, (0, 0, 0)), (235, .iload 4, 2, (0, 0, 0)), (237, .iconst 1, 1, (0, 0, 0)), (238, .iadd, 1, (0, 0, 0)), (239, .iaload, 1, (0, 0, 0)), (240, .aload_n 0, 1, (0, 0, 0)), (241, .iload 4, 2, (0, 0, 0)), (243, .iconst 2, 1, (0, 0, 0)), (244, .iadd, 1, (0, 0, 0)), (245, .iaload, 1, (0, 0, 0)), (246, .aload_n 0, 1, (0, 0, 0)), (247, .iload 4, 2, (0, 0, 0)), (249, .iconst 3, 1, (0, 0, 0)), (250, .iadd, 1, (0, 0, 0)), (251, .iaload, 1, (0, 0, 0)), (252, .aload_n 0, 1, (0, 0, 0)), (253, .iload 4, 2, (0, 0, 0)), (255, .iconst 4, 1, (0, 0, 0)), (256, .iadd, 1, (0, 0, 0)), (257, .iaload, 1, (0, 0, 0)), (258, .aload_n 0, 1, (0, 0, 0)), (259, .iload 4, 2, (0, 0, 0)), (261, .iconst 5, 1, (0, 0, 0)), (262, .iadd, 1, (0, 0, 0)), (263, .iaload, 1, (0, 0, 0)), (264, .invokevirtual 132, 3, (1, 60, 5)), (267, .istore 6, 2, (0, 0, 0)), (269, .aload_n 2, 1, (0, 0, 0)), (270, .invokevirtual 133, 3, (1, 56, 0)), (273, .iload 5, 2, (0, 0, 0)), (275, .if_icmp .eq 5, 3, (0, 0, 0)), (278, .iconst 0, 1, (0, 0, 0)), (279, .ireturn, 1, (1, 0, 0)), (280, .iload 5, 2, (0, 0, 0)), (282, .ifCond .ne 15, 3, (0, 0, 0)), (285, .aload_n 3, 1, (0, 0, 0)), (286, .iconst 0, 1, (0, 0, 0)), (287, .laload, 1, (0, 0, 0)), (288, .iload 6, 2, (0, 0, 0)), (290, .i2l, 1, (0, 0, 0)), (291, .lcmp, 1, (0, 0, 0)), (292, .ifCond .eq 5, 3, (0, 0, 0)), (295, .iconst 0, 1, (0, 0, 0)), (296, .ireturn, 1, (1, 0, 0)), (297, .goto 2375, 3, (0, 0, 0))]
set_option maxRecDepth 100000 in
theorem ck_append : lkS cl_append k_L_law := lkS_of (by decide +kernel)
theorem lw_append (X : AX) (I J : Nat → Nat → Int) (cc ss : Nat) {Q : (Option AV ⊕ Nat) → AS → Prop} (i : Nat) (hi : i + 6 ≤ X.1) (h72 : X.1 ≤ 3072) (v5 v6 : Option AV) (H : Two X k_L_append k_X9_append (0, [some (vr 0), some (vi (X.2 (i + 1))), some (vi (X.2 (i + 2))), some (vi (X.2 (i + 3))), some (vi (X.2 (i + 4))), some (vi (X.2 (i + 5))), some (vr 145), none], []) (0, [some (vr 135), some (vi (X.2 (i + 1))), some (vi (X.2 (i + 2))), some (vi (X.2 (i + 3))), some (vi (X.2 (i + 4))), some (vi (X.2 (i + 5))), none, none], []) (fun _ => True) I J cc ss) (K : ∀ I' J' c v5 v6, c ≤ 1 → INV I' J' → Ev X k_L_law (2672, [some (vr 1000000), some (vr 0), some (vr 135), some (vr 145), some (vi (i : Int)), v5, v6], []) (MS I' J' (cc + c) (ss + 6 * c)) Q) : Ev X k_L_law (196, [some (vr 1000000), some (vr 0), some (vr 135), some (vr 145), some (vi (i : Int)), v5, v6], []) (MS I J cc ss) (Q) := by
  have hC := ck_append
  refine ev_nL hC (fr' := (201, [some (vr 1000000), some (vr 0), some (vr 135), some (vr 145), some (vi (i : Int)), v5, v6], [vi 1, vi (i : Int), vr 1000000, vr 0])) (S' := MS I J cc ss) 4 rfl ?_
  refine ev_add (z := (i : Int) + 1) (hC _ _ rfl) (by omega) (by omega) (by omega) ?_
  show Ev X k_L_law (202, [some (vr 1000000), some (vr 0), some (vr 135), some (vr 145), some (vi (i : Int)), v5, v6], [vi ((i : Int) + 1), vr 1000000, vr 0]) (MS I J cc ss) _
  refine ev_xsN (j := i + 1) (hC _ _ rfl) rfl (by omega) (by omega) rfl ?_
  show Ev X k_L_law (203, [some (vr 1000000), some (vr 0), some (vr 135), some (vr 145), some (vi (i : Int)), v5, v6], [vi (X.2 (i + 1)), vr 0]) (MS I J cc ss) _
  refine ev_nL hC (fr' := (207, [some (vr 1000000), some (vr 0), some (vr 135), some (vr 145), some (vi (i : Int)), v5, v6], [vi 2, vi (i : Int), vr 1000000, vi (X.2 (i + 1)), vr 0])) (S' := MS I J cc ss) 3 rfl ?_
  refine ev_add (z := (i : Int) + 2) (hC _ _ rfl) (by omega) (by omega) (by omega) ?_
  show Ev X k_L_law (208, [some (vr 1000000), some (vr 0), some (vr 135), some (vr 145), some (vi (i : Int)), v5, v6], [vi ((i : Int) + 2), vr 1000000, vi (X.2 (i + 1)), vr 0]) (MS I J cc ss) _
  refine ev_xsN (j := i + 2) (hC _ _ rfl) rfl (by omega) (by omega) rfl ?_
  show Ev X k_L_law (209, [some (vr 1000000), some (vr 0), some (vr 135), some (vr 145), some (vi (i : Int)), v5, v6], [vi (X.2 (i + 2)), vi (X.2 (i + 1)), vr 0]) (MS I J cc ss) _
  refine ev_nL hC (fr' := (213, [some (vr 1000000), some (vr 0), some (vr 135), some (vr 145), some (vi (i : Int)), v5, v6], [vi 3, vi (i : Int), vr 1000000, vi (X.2 (i + 2)), vi (X.2 (i + 1)), vr 0])) (S' := MS I J cc ss) 3 rfl ?_
  refine ev_add (z := (i : Int) + 3) (hC _ _ rfl) (by omega) (by omega) (by omega) ?_
  show Ev X k_L_law (214, [some (vr 1000000), some (vr 0), some (vr 135), some (vr 145), some (vi (i : Int)), v5, v6], [vi ((i : Int) + 3), vr 1000000, vi (X.2 (i + 2)), vi (X.2 (i + 1)), vr 0]) (MS I J cc ss) _
  refine ev_xsN (j := i + 3) (hC _ _ rfl) rfl (by omega) (by omega) rfl ?_
  show Ev X k_L_law (215, [some (vr 1000000), some (vr 0), some (vr 135), some (vr 145), some (vi (i : Int)), v5, v6], [vi (X.2 (i + 3)), vi (X.2 (i + 2)), vi (X.2 (i + 1)), vr 0]) (MS I J cc ss) _
  refine ev_nL hC (fr' := (219, [some (vr 1000000), some (vr 0), some (vr 135), some (vr 145), some (vi (i : Int)), v5, v6], [vi 4, vi (i : Int), vr 1000000, vi (X.2 (i + 3)), vi (X.2 (i + 2)), vi (X.2 (i + 1)), vr 0])) (S' := MS I J cc ss) 3 rfl ?_
  refine ev_add (z := (i : Int) + 4) (hC _ _ rfl) (by omega) (by omega) (by omega) ?_
  show Ev X k_L_law (220, [some (vr 1000000), some (vr 0), some (vr 135), some (vr 145), some (vi (i : Int)), v5, v6], [vi ((i : Int) + 4), vr 1000000, vi (X.2 (i + 3)), vi (X.2 (i + 2)), vi (X.2 (i + 1)), vr 0]) (MS I J cc ss) _
  refine ev_xsN (j := i + 4) (hC _ _ rfl) rfl (by omega) (by omega) rfl ?_
  show Ev X k_L_law (221, [some (vr 1000000), some (vr 0), some (vr 135), some (vr 145), some (vi (i : Int)), v5, v6], [vi (X.2 (i + 4)), vi (X.2 (i + 3)), vi (X.2 (i + 2)), vi (X.2 (i + 1)), vr 0]) (MS I J cc ss) _
  refine ev_nL hC (fr' := (225, [some (vr 1000000), some (vr 0), some (vr 135), some (vr 145), some (vi (i : Int)), v5, v6], [vi 5, vi (i : Int), vr 1000000, vi (X.2 (i + 4)), vi (X.2 (i + 3)), vi (X.2 (i + 2)), vi (X.2 (i + 1)), vr 0])) (S' := MS I J cc ss) 3 rfl ?_
  refine ev_add (z := (i : Int) + 5) (hC _ _ rfl) (by omega) (by omega) (by omega) ?_
  show Ev X k_L_law (226, [some (vr 1000000), some (vr 0), some (vr 135), some (vr 145), some (vi (i : Int)), v5, v6], [vi ((i : Int) + 5), vr 1000000, vi (X.2 (i + 4)), vi (X.2 (i + 3)), vi (X.2 (i + 2)), vi (X.2 (i + 1)), vr 0]) (MS I J cc ss) _
  refine ev_xsN (j := i + 5) (hC _ _ rfl) rfl (by omega) (by omega) rfl ?_
  show Ev X k_L_law (227, [some (vr 1000000), some (vr 0), some (vr 135), some (vr 145), some (vi (i : Int)), v5, v6], [vi (X.2 (i + 5)), vi (X.2 (i + 4)), vi (X.2 (i + 3)), vi (X.2 (i + 2)), vi (X.2 (i + 1)), vr 0]) (MS I J cc ss) _
  refine ev_nL hC (fr' := (228, [some (vr 1000000), some (vr 0), some (vr 135), some (vr 145), some (vi (i : Int)), v5, v6], [vr 145, vi (X.2 (i + 5)), vi (X.2 (i + 4)), vi (X.2 (i + 3)), vi (X.2 (i + 2)), vi (X.2 (i + 1)), vr 0])) (S' := MS I J cc ss) 1 rfl ?_
  refine ev_ct (hC _ _ rfl) rfl rfl ⟨Nat.le_of_ble_eq_true rfl, Nat.le_of_ble_eq_true rfl⟩ (H) (fun t9 c9 I1 J1 q1 => ?_)
  obtain ⟨hc, hr⟩ := q1
  show Ev X k_L_law (231, [some (vr 1000000), some (vr 0), some (vr 135), some (vr 145), some (vi (i : Int)), v5, v6], [vi (t9 : Int)]) (MS I1 J1 (cc + c9) (ss + 6 * c9)) _
  refine ev_nL hC (fr' := (238, [some (vr 1000000), some (vr 0), some (vr 135), some (vr 145), some (vi (i : Int)), some (vi (t9 : Int)), v6], [vi 1, vi (i : Int), vr 1000000, vr 135])) (S' := MS I1 J1 (cc + c9) (ss + 6 * c9)) 5 rfl ?_
  refine ev_add (z := (i : Int) + 1) (hC _ _ rfl) (by omega) (by omega) (by omega) ?_
  show Ev X k_L_law (239, [some (vr 1000000), some (vr 0), some (vr 135), some (vr 145), some (vi (i : Int)), some (vi (t9 : Int)), v6], [vi ((i : Int) + 1), vr 1000000, vr 135]) (MS I1 J1 (cc + c9) (ss + 6 * c9)) _
  refine ev_xsN (j := i + 1) (hC _ _ rfl) rfl (by omega) (by omega) rfl ?_
  show Ev X k_L_law (240, [some (vr 1000000), some (vr 0), some (vr 135), some (vr 145), some (vi (i : Int)), some (vi (t9 : Int)), v6], [vi (X.2 (i + 1)), vr 135]) (MS I1 J1 (cc + c9) (ss + 6 * c9)) _
  refine ev_nL hC (fr' := (244, [some (vr 1000000), some (vr 0), some (vr 135), some (vr 145), some (vi (i : Int)), some (vi (t9 : Int)), v6], [vi 2, vi (i : Int), vr 1000000, vi (X.2 (i + 1)), vr 135])) (S' := MS I1 J1 (cc + c9) (ss + 6 * c9)) 3 rfl ?_
  refine ev_add (z := (i : Int) + 2) (hC _ _ rfl) (by omega) (by omega) (by omega) ?_
  show Ev X k_L_law (245, [some (vr 1000000), some (vr 0), some (vr 135), some (vr 145), some (vi (i : Int)), some (vi (t9 : Int)), v6], [vi ((i : Int) + 2), vr 1000000, vi (X.2 (i + 1)), vr 135]) (MS I1 J1 (cc + c9) (ss + 6 * c9)) _
  refine ev_xsN (j := i + 2) (hC _ _ rfl) rfl (by omega) (by omega) rfl ?_
  show Ev X k_L_law (246, [some (vr 1000000), some (vr 0), some (vr 135), some (vr 145), some (vi (i : Int)), some (vi (t9 : Int)), v6], [vi (X.2 (i + 2)), vi (X.2 (i + 1)), vr 135]) (MS I1 J1 (cc + c9) (ss + 6 * c9)) _
  refine ev_nL hC (fr' := (250, [some (vr 1000000), some (vr 0), some (vr 135), some (vr 145), some (vi (i : Int)), some (vi (t9 : Int)), v6], [vi 3, vi (i : Int), vr 1000000, vi (X.2 (i + 2)), vi (X.2 (i + 1)), vr 135])) (S' := MS I1 J1 (cc + c9) (ss + 6 * c9)) 3 rfl ?_
  refine ev_add (z := (i : Int) + 3) (hC _ _ rfl) (by omega) (by omega) (by omega) ?_
  show Ev X k_L_law (251, [some (vr 1000000), some (vr 0), some (vr 135), some (vr 145), some (vi (i : Int)), some (vi (t9 : Int)), v6], [vi ((i : Int) + 3), vr 1000000, vi (X.2 (i + 2)), vi (X.2 (i + 1)), vr 135]) (MS I1 J1 (cc + c9) (ss + 6 * c9)) _
  refine ev_xsN (j := i + 3) (hC _ _ rfl) rfl (by omega) (by omega) rfl ?_
  show Ev X k_L_law (252, [some (vr 1000000), some (vr 0), some (vr 135), some (vr 145), some (vi (i : Int)), some (vi (t9 : Int)), v6], [vi (X.2 (i + 3)), vi (X.2 (i + 2)), vi (X.2 (i + 1)), vr 135]) (MS I1 J1 (cc + c9) (ss + 6 * c9)) _
  refine ev_nL hC (fr' := (256, [some (vr 1000000), some (vr 0), some (vr 135), some (vr 145), some (vi (i : Int)), some (vi (t9 : Int)), v6], [vi 4, vi (i : Int), vr 1000000, vi (X.2 (i + 3)), vi (X.2 (i + 2)), vi (X.2 (i + 1)), vr 135])) (S' := MS I1 J1 (cc + c9) (ss + 6 * c9)) 3 rfl ?_
  refine ev_add (z := (i : Int) + 4) (hC _ _ rfl) (by omega) (by omega) (by omega) ?_
  show Ev X k_L_law (257, [some (vr 1000000), some (vr 0), some (vr 135), some (vr 145), some (vi (i : Int)), some (vi (t9 : Int)), v6], [vi ((i : Int) + 4), vr 1000000, vi (X.2 (i + 3)), vi (X.2 (i + 2)), vi (X.2 (i + 1)), vr 135]) (MS I1 J1 (cc + c9) (ss + 6 * c9)) _
  refine ev_xsN (j := i + 4) (hC _ _ rfl) rfl (by omega) (by omega) rfl ?_
  show Ev X k_L_law (258, [some (vr 1000000), some (vr 0), some (vr 135), some (vr 145), some (vi (i : Int)), some (vi (t9 : Int)), v6], [vi (X.2 (i + 4)), vi (X.2 (i + 3)), vi (X.2 (i + 2)), vi (X.2 (i + 1)), vr 135]) (MS I1 J1 (cc + c9) (ss + 6 * c9)) _
  refine ev_nL hC (fr' := (262, [some (vr 1000000), some (vr 0), some (vr 135), some (vr 145), some (vi (i : Int)), some (vi (t9 : Int)), v6], [vi 5, vi (i : Int), vr 1000000, vi (X.2 (i + 4)), vi (X.2 (i + 3)), vi (X.2 (i + 2)), vi (X.2 (i + 1)), vr 135])) (S' := MS I1 J1 (cc + c9) (ss + 6 * c9)) 3 rfl ?_
  refine ev_add (z := (i : Int) + 5) (hC _ _ rfl) (by omega) (by omega) (by omega) ?_
  show Ev X k_L_law (263, [some (vr 1000000), some (vr 0), some (vr 135), some (vr 145), some (vi (i : Int)), some (vi (t9 : Int)), v6], [vi ((i : Int) + 5), vr 1000000, vi (X.2 (i + 4)), vi (X.2 (i + 3)), vi (X.2 (i + 2)), vi (X.2 (i + 1)), vr 135]) (MS I1 J1 (cc + c9) (ss + 6 * c9)) _
  refine ev_xsN (j := i + 5) (hC _ _ rfl) rfl (by omega) (by omega) rfl ?_
  show Ev X k_L_law (264, [some (vr 1000000), some (vr 0), some (vr 135), some (vr 145), some (vi (i : Int)), some (vi (t9 : Int)), v6], [vi (X.2 (i + 5)), vi (X.2 (i + 4)), vi (X.2 (i + 3)), vi (X.2 (i + 2)), vi (X.2 (i + 1)), vr 135]) (MS I1 J1 (cc + c9) (ss + 6 * c9)) _
  refine ev_cz (hC _ _ rfl) rfl rfl ⟨Nat.le_of_ble_eq_true rfl, Nat.le_of_ble_eq_true rfl⟩ (hr) (fun z1 I2 J2 q2 => ?_)
  obtain ⟨h4, hz, hI⟩ := q2
  show Ev X k_L_law (267, [some (vr 1000000), some (vr 0), some (vr 135), some (vr 145), some (vi (i : Int)), some (vi (t9 : Int)), v6], [vi z1]) (MS I2 J2 (cc + c9) (ss + 6 * c9)) _
  refine ev_nL hC (fr' := (270, [some (vr 1000000), some (vr 0), some (vr 135), some (vr 145), some (vi (i : Int)), some (vi (t9 : Int)), some (vi z1)], [vr 135])) (S' := MS I2 J2 (cc + c9) (ss + 6 * c9)) 2 rfl ?_
  refine ev_cv (hC _ _ rfl) rfl rfl ⟨Nat.le_of_ble_eq_true rfl, Nat.le_of_ble_eq_true rfl⟩ (sp_thrown X _ _ _ _ h4) ?_
  show Ev X k_L_law (273, [some (vr 1000000), some (vr 0), some (vr 135), some (vr 145), some (vi (i : Int)), some (vi (t9 : Int)), some (vi z1)], [vi (t9 : Int)]) (MS I2 J2 (cc + c9) (ss + 6 * c9)) _
  refine ev_nL hC (fr' := (275, [some (vr 1000000), some (vr 0), some (vr 135), some (vr 145), some (vi (i : Int)), some (vi (t9 : Int)), some (vi z1)], [vi (t9 : Int), vi (t9 : Int)])) (S' := MS I2 J2 (cc + c9) (ss + 6 * c9)) 1 rfl ?_
  refine ev_ic (c := .eq) (off := 5) (hC _ _ rfl) (by decide) (fun (g1 : (t9 : Int) = (t9 : Int)) => ?_) (fun (g1 : ¬ ((t9 : Int) = (t9 : Int))) => False.elim (g1 rfl))
  show Ev X k_L_law (280, [some (vr 1000000), some (vr 0), some (vr 135), some (vr 145), some (vi (i : Int)), some (vi (t9 : Int)), some (vi z1)], []) (MS I2 J2 (cc + c9) (ss + 6 * c9)) _
  refine ev_nL hC (fr' := (282, [some (vr 1000000), some (vr 0), some (vr 135), some (vr 145), some (vi (i : Int)), some (vi (t9 : Int)), some (vi z1)], [vi (t9 : Int)])) (S' := MS I2 J2 (cc + c9) (ss + 6 * c9)) 1 rfl ?_
  refine ev_if (c := .ne) (off := 15) (hC _ _ rfl) (by decide) (fun (g2 : (t9 : Int) ≠ 0) => ?_) (fun (g2 : ¬ ((t9 : Int) ≠ 0)) => ?_)
  · show Ev X k_L_law (297, [some (vr 1000000), some (vr 0), some (vr 135), some (vr 145), some (vi (i : Int)), some (vi (t9 : Int)), some (vi z1)], []) (MS I2 J2 (cc + c9) (ss + 6 * c9)) _
    refine ev_nL hC (fr' := (2672, [some (vr 1000000), some (vr 0), some (vr 135), some (vr 145), some (vi (i : Int)), some (vi (t9 : Int)), some (vi z1)], [])) (S' := MS I2 J2 (cc + c9) (ss + 6 * c9)) 1 rfl ?_
    exact K _ _ _ _ _ hc hI
  · show Ev X k_L_law (285, [some (vr 1000000), some (vr 0), some (vr 135), some (vr 145), some (vi (i : Int)), some (vi (t9 : Int)), some (vi z1)], []) (MS I2 J2 (cc + c9) (ss + 6 * c9)) _
    refine ev_nL hC (fr' := (287, [some (vr 1000000), some (vr 0), some (vr 135), some (vr 145), some (vi (i : Int)), some (vi (t9 : Int)), some (vi z1)], [vi 0, vr 145])) (S' := MS I2 J2 (cc + c9) (ss + 6 * c9)) 2 rfl ?_
    refine ev_laN (j := 0) (z := (J2 145 0)) (hC _ _ rfl) rfl (by omega) (by omega) (rfl) ?_
    show Ev X k_L_law (288, [some (vr 1000000), some (vr 0), some (vr 135), some (vr 145), some (vi (i : Int)), some (vi (t9 : Int)), some (vi z1)], [vl (J2 145 0)]) (MS I2 J2 (cc + c9) (ss + 6 * c9)) _
    refine ev_nL hC (fr' := (291, [some (vr 1000000), some (vr 0), some (vr 135), some (vr 145), some (vi (i : Int)), some (vi (t9 : Int)), some (vi z1)], [vl z1, vl (J2 145 0)])) (S' := MS I2 J2 (cc + c9) (ss + 6 * c9)) 2 rfl ?_
    refine ev_lc (c := .eq) (off := 5) (hC _ _ rfl) (hC _ _ rfl) (by decide) (fun (g3 : (J2 145 0) = z1) => ?_) (fun (g3 : ¬ ((J2 145 0) = z1)) => False.elim (g3 (hz (by omega)).1))
    show Ev X k_L_law (297, [some (vr 1000000), some (vr 0), some (vr 135), some (vr 145), some (vi (i : Int)), some (vi (t9 : Int)), some (vi z1)], []) (MS I2 J2 (cc + c9) (ss + 6 * c9)) _
    refine ev_nL hC (fr' := (2672, [some (vr 1000000), some (vr 0), some (vr 135), some (vr 145), some (vi (i : Int)), some (vi (t9 : Int)), some (vi z1)], [])) (S' := MS I2 J2 (cc + c9) (ss + 6 * c9)) 1 rfl ?_
    exact K _ _ _ _ _ hc hI
set_option maxRecDepth 100000 in
noncomputable def cl_load : List (Nat × AI) := [(300, .aload_n 1, 1, (0, 0, 0)), (301, .aload_n 0, 1, (0, 0, 0)), (302, .iload 4, 2, (0, 0, 0)), (304, .iconst 1, 1, (0, 0, 0)), (305, .iadd, 1, (0, 0, 0)), (306, .iaload, 1, (0, 0, 0)), (307, .aload_n 3, 1, (0, 0, 0)), (308, .invokestatic 136, 3, (10, 251, 3)), (311, .istore 5, 2, (0, 0, 0)), (313, .aload_n 2, 1, (0, 0, 0)), (314, .aload_n 0, 1, (0, 0, 0)), (315, .iload 4, 2, (0, 0, 0)), (317, .iconst 1, 1, (0, 0, 0)), (318, .iadd, 1, (0, 0, 0)), (319, .iaload, 1, (0, 0, 0)), (320, .invokevirtual 139, 3, (1, 82, 1)), (323, .istore 6, 2, (0, 0, 0)), (325, .aload_n 2, 1, (0, 0, 0)), (326, .invokevirtual 133, 3, (1, 56, 0)), (329, .iload 5, 2, (0, 0, 0)), (331, .if_icmp .eq 5, 3, (0, 0, 0)), (334, .iconst 0, 1, (0, 0, 0)), (335, .ireturn, 1, (1, 0, 0)), (336, .iload 5, 2, (0, 0, 0)), (338, .ifCond .ne 15, 3, (0, 0, 0)), (341, .aload_n 3, 1, (0, 0, 0)), (342, .iconst 0, 1, (0, 0, 0)), (343, .laload, 1, (0, 0, 0)), (344, .iload 6, 2, (0, 0, 0)), (346, .i2l, 1, (0, 0, 0)), (347, .lcmp, 1, (0, 0, 0)), (348, .ifCond .eq 5, 3, (0, 0, 0)), (351, .iconst 0, 1, (0, 0, 0)), (352, .ireturn, 1, (1, 0, 0)), (353, .goto 2319, 3, (0, 0, 0))]
set_option maxRecDepth 100000 in
theorem ck_load : lkS cl_load k_L_law := lkS_of (by decide +kernel)
theorem lw_load (X : AX) (I J : Nat → Nat → Int) (cc ss : Nat) {Q : (Option AV ⊕ Nat) → AS → Prop} (i : Nat) (hi : i + 6 ≤ X.1) (h72 : X.1 ≤ 3072) (v5 v6 : Option AV) (H : Two X k_L_load k_X9_load (0, [some (vr 0), some (vi (X.2 (i + 1))), some (vr 145), none], []) (0, [some (vr 135), some (vi (X.2 (i + 1))), none], []) (fun _ => True) I J cc ss) (K : ∀ I' J' c v5 v6, c ≤ 1 → INV I' J' → Ev X k_L_law (2672, [some (vr 1000000), some (vr 0), some (vr 135), some (vr 145), some (vi (i : Int)), v5, v6], []) (MS I' J' (cc + c) (ss + 6 * c)) Q) : Ev X k_L_law (300, [some (vr 1000000), some (vr 0), some (vr 135), some (vr 145), some (vi (i : Int)), v5, v6], []) (MS I J cc ss) (Q) := by
  have hC := ck_load
  refine ev_nL hC (fr' := (305, [some (vr 1000000), some (vr 0), some (vr 135), some (vr 145), some (vi (i : Int)), v5, v6], [vi 1, vi (i : Int), vr 1000000, vr 0])) (S' := MS I J cc ss) 4 rfl ?_
  refine ev_add (z := (i : Int) + 1) (hC _ _ rfl) (by omega) (by omega) (by omega) ?_
  show Ev X k_L_law (306, [some (vr 1000000), some (vr 0), some (vr 135), some (vr 145), some (vi (i : Int)), v5, v6], [vi ((i : Int) + 1), vr 1000000, vr 0]) (MS I J cc ss) _
  refine ev_xsN (j := i + 1) (hC _ _ rfl) rfl (by omega) (by omega) rfl ?_
  show Ev X k_L_law (307, [some (vr 1000000), some (vr 0), some (vr 135), some (vr 145), some (vi (i : Int)), v5, v6], [vi (X.2 (i + 1)), vr 0]) (MS I J cc ss) _
  refine ev_nL hC (fr' := (308, [some (vr 1000000), some (vr 0), some (vr 135), some (vr 145), some (vi (i : Int)), v5, v6], [vr 145, vi (X.2 (i + 1)), vr 0])) (S' := MS I J cc ss) 1 rfl ?_
  refine ev_ct (hC _ _ rfl) rfl rfl ⟨Nat.le_of_ble_eq_true rfl, Nat.le_of_ble_eq_true rfl⟩ (H) (fun t9 c9 I1 J1 q1 => ?_)
  obtain ⟨hc, hr⟩ := q1
  show Ev X k_L_law (311, [some (vr 1000000), some (vr 0), some (vr 135), some (vr 145), some (vi (i : Int)), v5, v6], [vi (t9 : Int)]) (MS I1 J1 (cc + c9) (ss + 6 * c9)) _
  refine ev_nL hC (fr' := (318, [some (vr 1000000), some (vr 0), some (vr 135), some (vr 145), some (vi (i : Int)), some (vi (t9 : Int)), v6], [vi 1, vi (i : Int), vr 1000000, vr 135])) (S' := MS I1 J1 (cc + c9) (ss + 6 * c9)) 5 rfl ?_
  refine ev_add (z := (i : Int) + 1) (hC _ _ rfl) (by omega) (by omega) (by omega) ?_
  show Ev X k_L_law (319, [some (vr 1000000), some (vr 0), some (vr 135), some (vr 145), some (vi (i : Int)), some (vi (t9 : Int)), v6], [vi ((i : Int) + 1), vr 1000000, vr 135]) (MS I1 J1 (cc + c9) (ss + 6 * c9)) _
  refine ev_xsN (j := i + 1) (hC _ _ rfl) rfl (by omega) (by omega) rfl ?_
  show Ev X k_L_law (320, [some (vr 1000000), some (vr 0), some (vr 135), some (vr 145), some (vi (i : Int)), some (vi (t9 : Int)), v6], [vi (X.2 (i + 1)), vr 135]) (MS I1 J1 (cc + c9) (ss + 6 * c9)) _
  refine ev_cz (hC _ _ rfl) rfl rfl ⟨Nat.le_of_ble_eq_true rfl, Nat.le_of_ble_eq_true rfl⟩ (hr) (fun z1 I2 J2 q2 => ?_)
  obtain ⟨h4, hz, hI⟩ := q2
  show Ev X k_L_law (323, [some (vr 1000000), some (vr 0), some (vr 135), some (vr 145), some (vi (i : Int)), some (vi (t9 : Int)), v6], [vi z1]) (MS I2 J2 (cc + c9) (ss + 6 * c9)) _
  refine ev_nL hC (fr' := (326, [some (vr 1000000), some (vr 0), some (vr 135), some (vr 145), some (vi (i : Int)), some (vi (t9 : Int)), some (vi z1)], [vr 135])) (S' := MS I2 J2 (cc + c9) (ss + 6 * c9)) 2 rfl ?_
  refine ev_cv (hC _ _ rfl) rfl rfl ⟨Nat.le_of_ble_eq_true rfl, Nat.le_of_ble_eq_true rfl⟩ (sp_thrown X _ _ _ _ h4) ?_
  show Ev X k_L_law (329, [some (vr 1000000), some (vr 0), some (vr 135), some (vr 145), some (vi (i : Int)), some (vi (t9 : Int)), some (vi z1)], [vi (t9 : Int)]) (MS I2 J2 (cc + c9) (ss + 6 * c9)) _
  refine ev_nL hC (fr' := (331, [some (vr 1000000), some (vr 0), some (vr 135), some (vr 145), some (vi (i : Int)), some (vi (t9 : Int)), some (vi z1)], [vi (t9 : Int), vi (t9 : Int)])) (S' := MS I2 J2 (cc + c9) (ss + 6 * c9)) 1 rfl ?_
  refine ev_ic (c := .eq) (off := 5) (hC _ _ rfl) (by decide) (fun (g1 : (t9 : Int) = (t9 : Int)) => ?_) (fun (g1 : ¬ ((t9 : Int) = (t9 : Int))) => False.elim (g1 rfl))
  show Ev X k_L_law (336, [some (vr 1000000), some (vr 0), some (vr 135), some (vr 145), some (vi (i : Int)), some (vi (t9 : Int)), some (vi z1)], []) (MS I2 J2 (cc + c9) (ss + 6 * c9)) _
  refine ev_nL hC (fr' := (338, [some (vr 1000000), some (vr 0), some (vr 135), some (vr 145), some (vi (i : Int)), some (vi (t9 : Int)), some (vi z1)], [vi (t9 : Int)])) (S' := MS I2 J2 (cc + c9) (ss + 6 * c9)) 1 rfl ?_
  refine ev_if (c := .ne) (off := 15) (hC _ _ rfl) (by decide) (fun (g2 : (t9 : Int) ≠ 0) => ?_) (fun (g2 : ¬ ((t9 : Int) ≠ 0)) => ?_)
  · show Ev X k_L_law (353, [some (vr 1000000), some (vr 0), some (vr 135), some (vr 145), some (vi (i : Int)), some (vi (t9 : Int)), some (vi z1)], []) (MS I2 J2 (cc + c9) (ss + 6 * c9)) _
    refine ev_nL hC (fr' := (2672, [some (vr 1000000), some (vr 0), some (vr 135), some (vr 145), some (vi (i : Int)), some (vi (t9 : Int)), some (vi z1)], [])) (S' := MS I2 J2 (cc + c9) (ss + 6 * c9)) 1 rfl ?_
    exact K _ _ _ _ _ hc hI
  · show Ev X k_L_law (341, [some (vr 1000000), some (vr 0), some (vr 135), some (vr 145), some (vi (i : Int)), some (vi (t9 : Int)), some (vi z1)], []) (MS I2 J2 (cc + c9) (ss + 6 * c9)) _
    refine ev_nL hC (fr' := (343, [some (vr 1000000), some (vr 0), some (vr 135), some (vr 145), some (vi (i : Int)), some (vi (t9 : Int)), some (vi z1)], [vi 0, vr 145])) (S' := MS I2 J2 (cc + c9) (ss + 6 * c9)) 2 rfl ?_
    refine ev_laN (j := 0) (z := (J2 145 0)) (hC _ _ rfl) rfl (by omega) (by omega) (rfl) ?_
    show Ev X k_L_law (344, [some (vr 1000000), some (vr 0), some (vr 135), some (vr 145), some (vi (i : Int)), some (vi (t9 : Int)), some (vi z1)], [vl (J2 145 0)]) (MS I2 J2 (cc + c9) (ss + 6 * c9)) _
    refine ev_nL hC (fr' := (347, [some (vr 1000000), some (vr 0), some (vr 135), some (vr 145), some (vi (i : Int)), some (vi (t9 : Int)), some (vi z1)], [vl z1, vl (J2 145 0)])) (S' := MS I2 J2 (cc + c9) (ss + 6 * c9)) 2 rfl ?_
    refine ev_lc (c := .eq) (off := 5) (hC _ _ rfl) (hC _ _ rfl) (by decide) (fun (g3 : (J2 145 0) = z1) => ?_) (fun (g3 : ¬ ((J2 145 0) = z1)) => False.elim (g3 (hz (by omega)).1))
    show Ev X k_L_law (353, [some (vr 1000000), some (vr 0), some (vr 135), some (vr 145), some (vi (i : Int)), some (vi (t9 : Int)), some (vi z1)], []) (MS I2 J2 (cc + c9) (ss + 6 * c9)) _
    refine ev_nL hC (fr' := (2672, [some (vr 1000000), some (vr 0), some (vr 135), some (vr 145), some (vi (i : Int)), some (vi (t9 : Int)), some (vi z1)], [])) (S' := MS I2 J2 (cc + c9) (ss + 6 * c9)) 1 rfl ?_
    exact K _ _ _ _ _ hc hI
set_option maxRecDepth 100000 in
noncomputable def cl_count : List (Nat × AI) := [(369, .aload_n 1, 1, (0, 0, 0)), (370, .aload_n 0, 1, (0, 0, 0)), (371, .iload 4, 2, (0, 0, 0)), (373, .iconst 1, 1, (0, 0, 0)), (374, .iadd, 1, (0, 0, 0)), (375, .iaload, 1, (0, 0, 0)), (376, .aload_n 3, 1, (0, 0, 0)), (377, .invokestatic 144, 3, (10, 252, 3)), (380, .istore 5, 2, (0, 0, 0)), (382, .aload_n 2, 1, (0, 0, 0)), (383, .aload_n 0, 1, (0, 0, 0)), (384, .iload 4, 2, (0, 0, 0)), (386, .iconst 1, 1, (0, 0, 0)), (387, .iadd, 1, (0, 0, 0)), (388, .iaload, 1, (0, 0, 0)), (389, .invokevirtual 146, 3, (1, 99, 1)), (392, .istore 6, 2, (0, 0, 0)), (394, .aload_n 2, 1, (0, 0, 0)), (395, .invokevirtual 133, 3, (1, 56, 0)), (398, .iload 5, 2, (0, 0, 0)), (400, .if_icmp .eq 5, 3, (0, 0, 0)), (403, .iconst 0, 1, (0, 0, 0)), (404, .ireturn, 1, (1, 0, 0)), (405, .iload 5, 2, (0, 0, 0)), (407, .ifCond .ne 15, 3, (0, 0, 0)), (410, .aload_n 3, 1, (0, 0, 0)), (411, .iconst 0, 1, (0, 0, 0)), (412, .laload, 1, (0, 0, 0)), (413, .iload 6, 2, (0, 0, 0)), (415, .i2l, 1, (0, 0, 0)), (416, .lcmp, 1, (0, 0, 0)), (417, .ifCond .eq 5, 3, (0, 0, 0)), (420, .iconst 0, 1, (0, 0, 0)), (421, .ireturn, 1, (1, 0, 0)), (422, .goto 2250, 3, (0, 0, 0))]
set_option maxRecDepth 100000 in
theorem ck_count : lkS cl_count k_L_law := lkS_of (by decide +kernel)
theorem lw_count (X : AX) (I J : Nat → Nat → Int) (cc ss : Nat) {Q : (Option AV ⊕ Nat) → AS → Prop} (i : Nat) (hi : i + 6 ≤ X.1) (h72 : X.1 ≤ 3072) (v5 v6 : Option AV) (H : Two X k_L_count k_X9_count (0, [some (vr 0), some (vi (X.2 (i + 1))), some (vr 145), none], []) (0, [some (vr 135), some (vi (X.2 (i + 1)))], []) (fun _ => True) I J cc ss) (K : ∀ I' J' c v5 v6, c ≤ 1 → INV I' J' → Ev X k_L_law (2672, [some (vr 1000000), some (vr 0), some (vr 135), some (vr 145), some (vi (i : Int)), v5, v6], []) (MS I' J' (cc + c) (ss + 6 * c)) Q) : Ev X k_L_law (369, [some (vr 1000000), some (vr 0), some (vr 135), some (vr 145), some (vi (i : Int)), v5, v6], []) (MS I J cc ss) (Q) := by
  have hC := ck_count
  refine ev_nL hC (fr' := (374, [some (vr 1000000), some (vr 0), some (vr 135), some (vr 145), some (vi (i : Int)), v5, v6], [vi 1, vi (i : Int), vr 1000000, vr 0])) (S' := MS I J cc ss) 4 rfl ?_
  refine ev_add (z := (i : Int) + 1) (hC _ _ rfl) (by omega) (by omega) (by omega) ?_
  show Ev X k_L_law (375, [some (vr 1000000), some (vr 0), some (vr 135), some (vr 145), some (vi (i : Int)), v5, v6], [vi ((i : Int) + 1), vr 1000000, vr 0]) (MS I J cc ss) _
  refine ev_xsN (j := i + 1) (hC _ _ rfl) rfl (by omega) (by omega) rfl ?_
  show Ev X k_L_law (376, [some (vr 1000000), some (vr 0), some (vr 135), some (vr 145), some (vi (i : Int)), v5, v6], [vi (X.2 (i + 1)), vr 0]) (MS I J cc ss) _
  refine ev_nL hC (fr' := (377, [some (vr 1000000), some (vr 0), some (vr 135), some (vr 145), some (vi (i : Int)), v5, v6], [vr 145, vi (X.2 (i + 1)), vr 0])) (S' := MS I J cc ss) 1 rfl ?_
  refine ev_ct (hC _ _ rfl) rfl rfl ⟨Nat.le_of_ble_eq_true rfl, Nat.le_of_ble_eq_true rfl⟩ (H) (fun t9 c9 I1 J1 q1 => ?_)
  obtain ⟨hc, hr⟩ := q1
  show Ev X k_L_law (380, [some (vr 1000000), some (vr 0), some (vr 135), some (vr 145), some (vi (i : Int)), v5, v6], [vi (t9 : Int)]) (MS I1 J1 (cc + c9) (ss + 6 * c9)) _
  refine ev_nL hC (fr' := (387, [some (vr 1000000), some (vr 0), some (vr 135), some (vr 145), some (vi (i : Int)), some (vi (t9 : Int)), v6], [vi 1, vi (i : Int), vr 1000000, vr 135])) (S' := MS I1 J1 (cc + c9) (ss + 6 * c9)) 5 rfl ?_
  refine ev_add (z := (i : Int) + 1) (hC _ _ rfl) (by omega) (by omega) (by omega) ?_
  show Ev X k_L_law (388, [some (vr 1000000), some (vr 0), some (vr 135), some (vr 145), some (vi (i : Int)), some (vi (t9 : Int)), v6], [vi ((i : Int) + 1), vr 1000000, vr 135]) (MS I1 J1 (cc + c9) (ss + 6 * c9)) _
  refine ev_xsN (j := i + 1) (hC _ _ rfl) rfl (by omega) (by omega) rfl ?_
  show Ev X k_L_law (389, [some (vr 1000000), some (vr 0), some (vr 135), some (vr 145), some (vi (i : Int)), some (vi (t9 : Int)), v6], [vi (X.2 (i + 1)), vr 135]) (MS I1 J1 (cc + c9) (ss + 6 * c9)) _
  refine ev_cz (hC _ _ rfl) rfl rfl ⟨Nat.le_of_ble_eq_true rfl, Nat.le_of_ble_eq_true rfl⟩ (hr) (fun z1 I2 J2 q2 => ?_)
  obtain ⟨h4, hz, hI⟩ := q2
  show Ev X k_L_law (392, [some (vr 1000000), some (vr 0), some (vr 135), some (vr 145), some (vi (i : Int)), some (vi (t9 : Int)), v6], [vi z1]) (MS I2 J2 (cc + c9) (ss + 6 * c9)) _
  refine ev_nL hC (fr' := (395, [some (vr 1000000), some (vr 0), some (vr 135), some (vr 145), some (vi (i : Int)), some (vi (t9 : Int)), some (vi z1)], [vr 135])) (S' := MS I2 J2 (cc + c9) (ss + 6 * c9)) 2 rfl ?_
  refine ev_cv (hC _ _ rfl) rfl rfl ⟨Nat.le_of_ble_eq_true rfl, Nat.le_of_ble_eq_true rfl⟩ (sp_thrown X _ _ _ _ h4) ?_
  show Ev X k_L_law (398, [some (vr 1000000), some (vr 0), some (vr 135), some (vr 145), some (vi (i : Int)), some (vi (t9 : Int)), some (vi z1)], [vi (t9 : Int)]) (MS I2 J2 (cc + c9) (ss + 6 * c9)) _
  refine ev_nL hC (fr' := (400, [some (vr 1000000), some (vr 0), some (vr 135), some (vr 145), some (vi (i : Int)), some (vi (t9 : Int)), some (vi z1)], [vi (t9 : Int), vi (t9 : Int)])) (S' := MS I2 J2 (cc + c9) (ss + 6 * c9)) 1 rfl ?_
  refine ev_ic (c := .eq) (off := 5) (hC _ _ rfl) (by decide) (fun (g1 : (t9 : Int) = (t9 : Int)) => ?_) (fun (g1 : ¬ ((t9 : Int) = (t9 : Int))) => False.elim (g1 rfl))
  show Ev X k_L_law (405, [some (vr 1000000), some (vr 0), some (vr 135), some (vr 145), some (vi (i : Int)), some (vi (t9 : Int)), some (vi z1)], []) (MS I2 J2 (cc + c9) (ss + 6 * c9)) _
  refine ev_nL hC (fr' := (407, [some (vr 1000000), some (vr 0), some (vr 135), some (vr 145), some (vi (i : Int)), some (vi (t9 : Int)), some (vi z1)], [vi (t9 : Int)])) (S' := MS I2 J2 (cc + c9) (ss + 6 * c9)) 1 rfl ?_
  refine ev_if (c := .ne) (off := 15) (hC _ _ rfl) (by decide) (fun (g2 : (t9 : Int) ≠ 0) => ?_) (fun (g2 : ¬ ((t9 : Int) ≠ 0)) => ?_)
  · show Ev X k_L_law (422, [some (vr 1000000), some (vr 0), some (vr 135), some (vr 145), some (vi (i : Int)), some (vi (t9 : Int)), some (vi z1)], []) (MS I2 J2 (cc + c9) (ss + 6 * c9)) _
    refine ev_nL hC (fr' := (2672, [some (vr 1000000), some (vr 0), some (vr 135), some (vr 145), some (vi (i : Int)), some (vi (t9 : Int)), some (vi z1)], [])) (S' := MS I2 J2 (cc + c9) (ss + 6 * c9)) 1 rfl ?_
    exact K _ _ _ _ _ hc hI
  · show Ev X k_L_law (410, [some (vr 1000000), some (vr 0), some (vr 135), some (vr 145), some (vi (i : Int)), some (vi (t9 : Int)), some (vi z1)], []) (MS I2 J2 (cc + c9) (ss + 6 * c9)) _
    refine ev_nL hC (fr' := (412, [some (vr 1000000), some (vr 0), some (vr 135), some (vr 145), some (vi (i : Int)), some (vi (t9 : Int)), some (vi z1)], [vi 0, vr 145])) (S' := MS I2 J2 (cc + c9) (ss + 6 * c9)) 2 rfl ?_
    refine ev_laN (j := 0) (z := (J2 145 0)) (hC _ _ rfl) rfl (by omega) (by omega) (rfl) ?_
    show Ev X k_L_law (413, [some (vr 1000000), some (vr 0), some (vr 135), some (vr 145), some (vi (i : Int)), some (vi (t9 : Int)), some (vi z1)], [vl (J2 145 0)]) (MS I2 J2 (cc + c9) (ss + 6 * c9)) _
    refine ev_nL hC (fr' := (416, [some (vr 1000000), some (vr 0), some (vr 135), some (vr 145), some (vi (i : Int)), some (vi (t9 : Int)), some (vi z1)], [vl z1, vl (J2 145 0)])) (S' := MS I2 J2 (cc + c9) (ss + 6 * c9)) 2 rfl ?_
    refine ev_lc (c := .eq) (off := 5) (hC _ _ rfl) (hC _ _ rfl) (by decide) (fun (g3 : (J2 145 0) = z1) => ?_) (fun (g3 : ¬ ((J2 145 0) = z1)) => False.elim (g3 (hz (by omega)).1))
    show Ev X k_L_law (422, [some (vr 1000000), some (vr 0), some (vr 135), some (vr 145), some (vi (i : Int)), some (vi (t9 : Int)), some (vi z1)], []) (MS I2 J2 (cc + c9) (ss + 6 * c9)) _
    refine ev_nL hC (fr' := (2672, [some (vr 1000000), some (vr 0), some (vr 135), some (vr 145), some (vi (i : Int)), some (vi (t9 : Int)), some (vi z1)], [])) (S' := MS I2 J2 (cc + c9) (ss + 6 * c9)) 1 rfl ?_
    exact K _ _ _ _ _ hc hI
set_option maxRecDepth 100000 in
noncomputable def cl_addSize : List (Nat × AI) := [(425, .aload_n 1, 1, (0, 0, 0)), (426, .aload_n 0, 1, (0, 0, 0)), (427, .iload 4, 2, (0, 0, 0)), (429, .iconst 1, 1, (0, 0, 0)), (430, .iadd, 1, (0, 0, 0)), (431, .iaload, 1, (0, 0, 0)), (432, .aload_n 3, 1, (0, 0, 0)), (433, .invokestatic 147, 3, (10, 253, 3)), (436, .istore 5, 2, (0, 0, 0)), (438, .aload_n 2, 1, (0, 0, 0)), (439, .aload_n 0, 1, (0, 0, 0)), (440, .iload 4, 2, (0, 0, 0)), (442, .iconst 1, 1, (0, 0, 0)), (443, .iadd, 1, (0, 0, 0)), (444, .iaload, 1, (0, 0, 0)), (445, .invokevirtual 149, 3, (1, 100, 1)), (448, .istore 6, 2, (0, 0, 0)), (450, .aload_n 2, 1, (0, 0, 0)), (451, .invokevirtual 133, 3, (1, 56, 0)), (454, .iload 5, 2, (0, 0, 0)), (456, .if_icmp .eq 5, 3, (0, 0, 0)), (459, .iconst 0, 1, (0, 0, 0)), (460, .ireturn, 1, (1, 0, 0)), (461, .iload 5, 2, (0, 0, 0)), (463, .ifCond .ne 15, 3, (0, 0, 0)), (466, .aload_n 3, 1, (0, 0, 0)), (467, .iconst 0, 1, (0, 0, 0)), (468, .laload, 1, (0, 0, 0)), (469, .iload 6, 2, (0, 0, 0)), (471, .i2l, 1, (0, 0, 0)), (472, .lcmp, 1, (0, 0, 0)), (473, .ifCond .eq 5, 3, (0, 0, 0)), (476, .iconst 0, 1, (0, 0, 0)), (477, .ireturn, 1, (1, 0, 0)), (478, .goto 2194, 3, (0, 0, 0))]
set_option maxRecDepth 100000 in
theorem ck_addSize : lkS cl_addSize k_L_law := lkS_of (by decide +kernel)
theorem lw_addSize (X : AX) (I J : Nat → Nat → Int) (cc ss : Nat) {Q : (Option AV ⊕ Nat) → AS → Prop} (i : Nat) (hi : i + 6 ≤ X.1) (h72 : X.1 ≤ 3072) (v5 v6 : Option AV) (H : Two X k_L_addSize k_X9_addSize (0, [some (vr 0), some (vi (X.2 (i + 1))), some (vr 145), none], []) (0, [some (vr 135), some (vi (X.2 (i + 1)))], []) (fun _ => True) I J cc ss) (K : ∀ I' J' c v5 v6, c ≤ 1 → INV I' J' → Ev X k_L_law (2672, [some (vr 1000000), some (vr 0), some (vr 135), some (vr 145), some (vi (i : Int)), v5, v6], []) (MS I' J' (cc + c) (ss + 6 * c)) Q) : Ev X k_L_law (425, [some (vr 1000000), some (vr 0), some (vr 135), some (vr 145), some (vi (i : Int)), v5, v6], []) (MS I J cc ss) (Q) := by
  have hC := ck_addSize
  refine ev_nL hC (fr' := (430, [some (vr 1000000), some (vr 0), some (vr 135), some (vr 145), some (vi (i : Int)), v5, v6], [vi 1, vi (i : Int), vr 1000000, vr 0])) (S' := MS I J cc ss) 4 rfl ?_
  refine ev_add (z := (i : Int) + 1) (hC _ _ rfl) (by omega) (by omega) (by omega) ?_
  show Ev X k_L_law (431, [some (vr 1000000), some (vr 0), some (vr 135), some (vr 145), some (vi (i : Int)), v5, v6], [vi ((i : Int) + 1), vr 1000000, vr 0]) (MS I J cc ss) _
  refine ev_xsN (j := i + 1) (hC _ _ rfl) rfl (by omega) (by omega) rfl ?_
  show Ev X k_L_law (432, [some (vr 1000000), some (vr 0), some (vr 135), some (vr 145), some (vi (i : Int)), v5, v6], [vi (X.2 (i + 1)), vr 0]) (MS I J cc ss) _
  refine ev_nL hC (fr' := (433, [some (vr 1000000), some (vr 0), some (vr 135), some (vr 145), some (vi (i : Int)), v5, v6], [vr 145, vi (X.2 (i + 1)), vr 0])) (S' := MS I J cc ss) 1 rfl ?_
  refine ev_ct (hC _ _ rfl) rfl rfl ⟨Nat.le_of_ble_eq_true rfl, Nat.le_of_ble_eq_true rfl⟩ (H) (fun t9 c9 I1 J1 q1 => ?_)
  obtain ⟨hc, hr⟩ := q1
  show Ev X k_L_law (436, [some (vr 1000000), some (vr 0), some (vr 135), some (vr 145), some (vi (i : Int)), v5, v6], [vi (t9 : Int)]) (MS I1 J1 (cc + c9) (ss + 6 * c9)) _
  refine ev_nL hC (fr' := (443, [some (vr 1000000), some (vr 0), some (vr 135), some (vr 145), some (vi (i : Int)), some (vi (t9 : Int)), v6], [vi 1, vi (i : Int), vr 1000000, vr 135])) (S' := MS I1 J1 (cc + c9) (ss + 6 * c9)) 5 rfl ?_
  refine ev_add (z := (i : Int) + 1) (hC _ _ rfl) (by omega) (by omega) (by omega) ?_
  show Ev X k_L_law (444, [some (vr 1000000), some (vr 0), some (vr 135), some (vr 145), some (vi (i : Int)), some (vi (t9 : Int)), v6], [vi ((i : Int) + 1), vr 1000000, vr 135]) (MS I1 J1 (cc + c9) (ss + 6 * c9)) _
  refine ev_xsN (j := i + 1) (hC _ _ rfl) rfl (by omega) (by omega) rfl ?_
  show Ev X k_L_law (445, [some (vr 1000000), some (vr 0), some (vr 135), some (vr 145), some (vi (i : Int)), some (vi (t9 : Int)), v6], [vi (X.2 (i + 1)), vr 135]) (MS I1 J1 (cc + c9) (ss + 6 * c9)) _
  refine ev_cz (hC _ _ rfl) rfl rfl ⟨Nat.le_of_ble_eq_true rfl, Nat.le_of_ble_eq_true rfl⟩ (hr) (fun z1 I2 J2 q2 => ?_)
  obtain ⟨h4, hz, hI⟩ := q2
  show Ev X k_L_law (448, [some (vr 1000000), some (vr 0), some (vr 135), some (vr 145), some (vi (i : Int)), some (vi (t9 : Int)), v6], [vi z1]) (MS I2 J2 (cc + c9) (ss + 6 * c9)) _
  refine ev_nL hC (fr' := (451, [some (vr 1000000), some (vr 0), some (vr 135), some (vr 145), some (vi (i : Int)), some (vi (t9 : Int)), some (vi z1)], [vr 135])) (S' := MS I2 J2 (cc + c9) (ss + 6 * c9)) 2 rfl ?_
  refine ev_cv (hC _ _ rfl) rfl rfl ⟨Nat.le_of_ble_eq_true rfl, Nat.le_of_ble_eq_true rfl⟩ (sp_thrown X _ _ _ _ h4) ?_
  show Ev X k_L_law (454, [some (vr 1000000), some (vr 0), some (vr 135), some (vr 145), some (vi (i : Int)), some (vi (t9 : Int)), some (vi z1)], [vi (t9 : Int)]) (MS I2 J2 (cc + c9) (ss + 6 * c9)) _
  refine ev_nL hC (fr' := (456, [some (vr 1000000), some (vr 0), some (vr 135), some (vr 145), some (vi (i : Int)), some (vi (t9 : Int)), some (vi z1)], [vi (t9 : Int), vi (t9 : Int)])) (S' := MS I2 J2 (cc + c9) (ss + 6 * c9)) 1 rfl ?_
  refine ev_ic (c := .eq) (off := 5) (hC _ _ rfl) (by decide) (fun (g1 : (t9 : Int) = (t9 : Int)) => ?_) (fun (g1 : ¬ ((t9 : Int) = (t9 : Int))) => False.elim (g1 rfl))
  show Ev X k_L_law (461, [some (vr 1000000), some (vr 0), some (vr 135), some (vr 145), some (vi (i : Int)), some (vi (t9 : Int)), some (vi z1)], []) (MS I2 J2 (cc + c9) (ss + 6 * c9)) _
  refine ev_nL hC (fr' := (463, [some (vr 1000000), some (vr 0), some (vr 135), some (vr 145), some (vi (i : Int)), some (vi (t9 : Int)), some (vi z1)], [vi (t9 : Int)])) (S' := MS I2 J2 (cc + c9) (ss + 6 * c9)) 1 rfl ?_
  refine ev_if (c := .ne) (off := 15) (hC _ _ rfl) (by decide) (fun (g2 : (t9 : Int) ≠ 0) => ?_) (fun (g2 : ¬ ((t9 : Int) ≠ 0)) => ?_)
  · show Ev X k_L_law (478, [some (vr 1000000), some (vr 0), some (vr 135), some (vr 145), some (vi (i : Int)), some (vi (t9 : Int)), some (vi z1)], []) (MS I2 J2 (cc + c9) (ss + 6 * c9)) _
    refine ev_nL hC (fr' := (2672, [some (vr 1000000), some (vr 0), some (vr 135), some (vr 145), some (vi (i : Int)), some (vi (t9 : Int)), some (vi z1)], [])) (S' := MS I2 J2 (cc + c9) (ss + 6 * c9)) 1 rfl ?_
    exact K _ _ _ _ _ hc hI
  · show Ev X k_L_law (466, [some (vr 1000000), some (vr 0), some (vr 135), some (vr 145), some (vi (i : Int)), some (vi (t9 : Int)), some (vi z1)], []) (MS I2 J2 (cc + c9) (ss + 6 * c9)) _
    refine ev_nL hC (fr' := (468, [some (vr 1000000), some (vr 0), some (vr 135), some (vr 145), some (vi (i : Int)), some (vi (t9 : Int)), some (vi z1)], [vi 0, vr 145])) (S' := MS I2 J2 (cc + c9) (ss + 6 * c9)) 2 rfl ?_
    refine ev_laN (j := 0) (z := (J2 145 0)) (hC _ _ rfl) rfl (by omega) (by omega) (rfl) ?_
    show Ev X k_L_law (469, [some (vr 1000000), some (vr 0), some (vr 135), some (vr 145), some (vi (i : Int)), some (vi (t9 : Int)), some (vi z1)], [vl (J2 145 0)]) (MS I2 J2 (cc + c9) (ss + 6 * c9)) _
    refine ev_nL hC (fr' := (472, [some (vr 1000000), some (vr 0), some (vr 135), some (vr 145), some (vi (i : Int)), some (vi (t9 : Int)), some (vi z1)], [vl z1, vl (J2 145 0)])) (S' := MS I2 J2 (cc + c9) (ss + 6 * c9)) 2 rfl ?_
    refine ev_lc (c := .eq) (off := 5) (hC _ _ rfl) (hC _ _ rfl) (by decide) (fun (g3 : (J2 145 0) = z1) => ?_) (fun (g3 : ¬ ((J2 145 0) = z1)) => False.elim (g3 (hz (by omega)).1))
    show Ev X k_L_law (478, [some (vr 1000000), some (vr 0), some (vr 135), some (vr 145), some (vi (i : Int)), some (vi (t9 : Int)), some (vi z1)], []) (MS I2 J2 (cc + c9) (ss + 6 * c9)) _
    refine ev_nL hC (fr' := (2672, [some (vr 1000000), some (vr 0), some (vr 135), some (vr 145), some (vi (i : Int)), some (vi (t9 : Int)), some (vi z1)], [])) (S' := MS I2 J2 (cc + c9) (ss + 6 * c9)) 1 rfl ?_
    exact K _ _ _ _ _ hc hI
set_option maxRecDepth 100000 in
noncomputable def cl_removeSize : List (Nat × AI) := [(481, .aload_n 1, 1, (0, 0, 0)), (482, .aload_n 0, 1, (0, 0, 0)), (483, .iload 4, 2, (0, 0, 0)), (485, .iconst 1, 1, (0, 0, 0)), (486, .iadd, 1, (0, 0, 0)), (487, .iaload, 1, (0, 0, 0)), (488, .aload_n 3, 1, (0, 0, 0)), (489, .invokestatic 150, 3, (10, 254, 3)), (492, .istore 5, 2, (0, 0, 0)), (494, .aload_n 2, 1, (0, 0, 0)), (495, .aload_n 0, 1, (0, 0, 0)), (496, .iload 4, 2, (0, 0, 0)), (498, .iconst 1, 1, (0, 0, 0)), (499, .iadd, 1, (0, 0, 0)), (500, .iaload, 1, (0, 0, 0)), (501, .invokevirtual 152, 3, (1, 101, 1)), (504, .istore 6, 2, (0, 0, 0)), (506, .aload_n 2, 1, (0, 0, 0)), (507, .invokevirtual 133, 3, (1, 56, 0)), (510, .iload 5, 2, (0, 0, 0)), (512, .if_icmp .eq 5, 3, (0, 0, 0)), (515, .iconst 0, 1, (0, 0, 0)), (516, .ireturn, 1, (1, 0, 0)), (517, .iload 5, 2, (0, 0, 0)), (519, .ifCond .ne 15, 3, (0, 0, 0)), (522, .aload_n 3, 1, (0, 0, 0)), (523, .iconst 0, 1, (0, 0, 0)), (524, .laload, 1, (0, 0, 0)), (525, .iload 6, 2, (0, 0, 0)), (527, .i2l, 1, (0, 0, 0)), (528, .lcmp, 1, (0, 0, 0)), (529, .ifCond .eq 5, 3, (0, 0, 0)), (532, .iconst 0, 1, (0, 0, 0)), (533, .ireturn, 1, (1, 0, 0)), (534, .goto 2138, 3, (0, 0, 0))]
set_option maxRecDepth 100000 in
theorem ck_removeSize : lkS cl_removeSize k_L_law := lkS_of (by decide +kernel)
theorem lw_removeSize (X : AX) (I J : Nat → Nat → Int) (cc ss : Nat) {Q : (Option AV ⊕ Nat) → AS → Prop} (i : Nat) (hi : i + 6 ≤ X.1) (h72 : X.1 ≤ 3072) (v5 v6 : Option AV) (H : Two X k_L_removeSize k_X9_removeSize (0, [some (vr 0), some (vi (X.2 (i + 1))), some (vr 145), none], []) (0, [some (vr 135), some (vi (X.2 (i + 1))), none, none], []) (fun _ => True) I J cc ss) (K : ∀ I' J' c v5 v6, c ≤ 1 → INV I' J' → Ev X k_L_law (2672, [some (vr 1000000), some (vr 0), some (vr 135), some (vr 145), some (vi (i : Int)), v5, v6], []) (MS I' J' (cc + c) (ss + 6 * c)) Q) : Ev X k_L_law (481, [some (vr 1000000), some (vr 0), some (vr 135), some (vr 145), some (vi (i : Int)), v5, v6], []) (MS I J cc ss) (Q) := by
  have hC := ck_removeSize
  refine ev_nL hC (fr' := (486, [some (vr 1000000), some (vr 0), some (vr 135), some (vr 145), some (vi (i : Int)), v5, v6], [vi 1, vi (i : Int), vr 1000000, vr 0])) (S' := MS I J cc ss) 4 rfl ?_
  refine ev_add (z := (i : Int) + 1) (hC _ _ rfl) (by omega) (by omega) (by omega) ?_
  show Ev X k_L_law (487, [some (vr 1000000), some (vr 0), some (vr 135), some (vr 145), some (vi (i : Int)), v5, v6], [vi ((i : Int) + 1), vr 1000000, vr 0]) (MS I J cc ss) _
  refine ev_xsN (j := i + 1) (hC _ _ rfl) rfl (by omega) (by omega) rfl ?_
  show Ev X k_L_law (488, [some (vr 1000000), some (vr 0), some (vr 135), some (vr 145), some (vi (i : Int)), v5, v6], [vi (X.2 (i + 1)), vr 0]) (MS I J cc ss) _
  refine ev_nL hC (fr' := (489, [some (vr 1000000), some (vr 0), some (vr 135), some (vr 145), some (vi (i : Int)), v5, v6], [vr 145, vi (X.2 (i + 1)), vr 0])) (S' := MS I J cc ss) 1 rfl ?_
  refine ev_ct (hC _ _ rfl) rfl rfl ⟨Nat.le_of_ble_eq_true rfl, Nat.le_of_ble_eq_true rfl⟩ (H) (fun t9 c9 I1 J1 q1 => ?_)
  obtain ⟨hc, hr⟩ := q1
  show Ev X k_L_law (492, [some (vr 1000000), some (vr 0), some (vr 135), some (vr 145), some (vi (i : Int)), v5, v6], [vi (t9 : Int)]) (MS I1 J1 (cc + c9) (ss + 6 * c9)) _
  refine ev_nL hC (fr' := (499, [some (vr 1000000), some (vr 0), some (vr 135), some (vr 145), some (vi (i : Int)), some (vi (t9 : Int)), v6], [vi 1, vi (i : Int), vr 1000000, vr 135])) (S' := MS I1 J1 (cc + c9) (ss + 6 * c9)) 5 rfl ?_
  refine ev_add (z := (i : Int) + 1) (hC _ _ rfl) (by omega) (by omega) (by omega) ?_
  show Ev X k_L_law (500, [some (vr 1000000), some (vr 0), some (vr 135), some (vr 145), some (vi (i : Int)), some (vi (t9 : Int)), v6], [vi ((i : Int) + 1), vr 1000000, vr 135]) (MS I1 J1 (cc + c9) (ss + 6 * c9)) _
  refine ev_xsN (j := i + 1) (hC _ _ rfl) rfl (by omega) (by omega) rfl ?_
  show Ev X k_L_law (501, [some (vr 1000000), some (vr 0), some (vr 135), some (vr 145), some (vi (i : Int)), some (vi (t9 : Int)), v6], [vi (X.2 (i + 1)), vr 135]) (MS I1 J1 (cc + c9) (ss + 6 * c9)) _
  refine ev_cz (hC _ _ rfl) rfl rfl ⟨Nat.le_of_ble_eq_true rfl, Nat.le_of_ble_eq_true rfl⟩ (hr) (fun z1 I2 J2 q2 => ?_)
  obtain ⟨h4, hz, hI⟩ := q2
  show Ev X k_L_law (504, [some (vr 1000000), some (vr 0), some (vr 135), some (vr 145), some (vi (i : Int)), some (vi (t9 : Int)), v6], [vi z1]) (MS I2 J2 (cc + c9) (ss + 6 * c9)) _
  refine ev_nL hC (fr' := (507, [some (vr 1000000), some (vr 0), some (vr 135), some (vr 145), some (vi (i : Int)), some (vi (t9 : Int)), some (vi z1)], [vr 135])) (S' := MS I2 J2 (cc + c9) (ss + 6 * c9)) 2 rfl ?_
  refine ev_cv (hC _ _ rfl) rfl rfl ⟨Nat.le_of_ble_eq_true rfl, Nat.le_of_ble_eq_true rfl⟩ (sp_thrown X _ _ _ _ h4) ?_
  show Ev X k_L_law (510, [some (vr 1000000), some (vr 0), some (vr 135), some (vr 145), some (vi (i : Int)), some (vi (t9 : Int)), some (vi z1)], [vi (t9 : Int)]) (MS I2 J2 (cc + c9) (ss + 6 * c9)) _
  refine ev_nL hC (fr' := (512, [some (vr 1000000), some (vr 0), some (vr 135), some (vr 145), some (vi (i : Int)), some (vi (t9 : Int)), some (vi z1)], [vi (t9 : Int), vi (t9 : Int)])) (S' := MS I2 J2 (cc + c9) (ss + 6 * c9)) 1 rfl ?_
  refine ev_ic (c := .eq) (off := 5) (hC _ _ rfl) (by decide) (fun (g1 : (t9 : Int) = (t9 : Int)) => ?_) (fun (g1 : ¬ ((t9 : Int) = (t9 : Int))) => False.elim (g1 rfl))
  show Ev X k_L_law (517, [some (vr 1000000), some (vr 0), some (vr 135), some (vr 145), some (vi (i : Int)), some (vi (t9 : Int)), some (vi z1)], []) (MS I2 J2 (cc + c9) (ss + 6 * c9)) _
  refine ev_nL hC (fr' := (519, [some (vr 1000000), some (vr 0), some (vr 135), some (vr 145), some (vi (i : Int)), some (vi (t9 : Int)), some (vi z1)], [vi (t9 : Int)])) (S' := MS I2 J2 (cc + c9) (ss + 6 * c9)) 1 rfl ?_
  refine ev_if (c := .ne) (off := 15) (hC _ _ rfl) (by decide) (fun (g2 : (t9 : Int) ≠ 0) => ?_) (fun (g2 : ¬ ((t9 : Int) ≠ 0)) => ?_)
  · show Ev X k_L_law (534, [some (vr 1000000), some (vr 0), some (vr 135), some (vr 145), some (vi (i : Int)), some (vi (t9 : Int)), some (vi z1)], []) (MS I2 J2 (cc + c9) (ss + 6 * c9)) _
    refine ev_nL hC (fr' := (2672, [some (vr 1000000), some (vr 0), some (vr 135), some (vr 145), some (vi (i : Int)), some (vi (t9 : Int)), some (vi z1)], [])) (S' := MS I2 J2 (cc + c9) (ss + 6 * c9)) 1 rfl ?_
    exact K _ _ _ _ _ hc hI
  · show Ev X k_L_law (522, [some (vr 1000000), some (vr 0), some (vr 135), some (vr 145), some (vi (i : Int)), some (vi (t9 : Int)), some (vi z1)], []) (MS I2 J2 (cc + c9) (ss + 6 * c9)) _
    refine ev_nL hC (fr' := (524, [some (vr 1000000), some (vr 0), some (vr 135), some (vr 145), some (vi (i : Int)), some (vi (t9 : Int)), some (vi z1)], [vi 0, vr 145])) (S' := MS I2 J2 (cc + c9) (ss + 6 * c9)) 2 rfl ?_
    refine ev_laN (j := 0) (z := (J2 145 0)) (hC _ _ rfl) rfl (by omega) (by omega) (rfl) ?_
    show Ev X k_L_law (525, [some (vr 1000000), some (vr 0), some (vr 135), some (vr 145), some (vi (i : Int)), some (vi (t9 : Int)), some (vi z1)], [vl (J2 145 0)]) (MS I2 J2 (cc + c9) (ss + 6 * c9)) _
    refine ev_nL hC (fr' := (528, [some (vr 1000000), some (vr 0), some (vr 135), some (vr 145), some (vi (i : Int)), some (vi (t9 : Int)), some (vi z1)], [vl z1, vl (J2 145 0)])) (S' := MS I2 J2 (cc + c9) (ss + 6 * c9)) 2 rfl ?_
    refine ev_lc (c := .eq) (off := 5) (hC _ _ rfl) (hC _ _ rfl) (by decide) (fun (g3 : (J2 145 0) = z1) => ?_) (fun (g3 : ¬ ((J2 145 0) = z1)) => False.elim (g3 (hz (by omega)).1))
    show Ev X k_L_law (534, [some (vr 1000000), some (vr 0), some (vr 135), some (vr 145), some (vi (i : Int)), some (vi (t9 : Int)), some (vi z1)], []) (MS I2 J2 (cc + c9) (ss + 6 * c9)) _
    refine ev_nL hC (fr' := (2672, [some (vr 1000000), some (vr 0), some (vr 135), some (vr 145), some (vi (i : Int)), some (vi (t9 : Int)), some (vi z1)], [])) (S' := MS I2 J2 (cc + c9) (ss + 6 * c9)) 1 rfl ?_
    exact K _ _ _ _ _ hc hI
set_option maxRecDepth 100000 in
noncomputable def cl_size : List (Nat × AI) := [(537, .aload_n 1, 1, (0, 0, 0)), (538, .aload_n 0, 1, (0, 0, 0)), (539, .iload 4, 2, (0, 0, 0)), (541, .iconst 1, 1, (0, 0, 0)), (542, .iadd, 1, (0, 0, 0)), (543, .iaload, 1, (0, 0, 0)), (544, .aload_n 0, 1, (0, 0, 0)), (545, .iload 4, 2, (0, 0, 0)), (547, .iconst 2, 1, (0, 0, 0)), (548, .iadd, 1, (0, 0, 0)), (549, .iaload, 1, (0, 0, 0)), (550, .aload_n 3, 1, (0, 0, 0)), (551, .invokestatic 153, 3, (10, 255, 4)), (554, .istore 5, 2, (0, 0, 0)), (556, .aload_n 2, 1, (0, 0, 0)), (557, .aload_n 0, 1, (0, 0, 0)), (558, .iload 4, 2, (0, 0, 0)), (560, .iconst 1, 1, (0, 0, 0)), (561, .iadd, 1, (0, 0, 0)), (562, .iaload, 1, (0, 0, 0)), (563, .aload_n 0, 1, (0, 0, 0)), (564, .iload 4, 2, (0, 0, 0)), (566, .iconst 2, 1, (0, 0, 0)), (567, .iadd, 1, (0, 0, 0)), (568, .iaload, 1, (0, 0, 0)), (569, .invokevirtual 156, 3, (1, 102, 2)), (572, .istore 6, 2, (0, 0, 0)), (574, .aload_n 2, 1, (0, 0, 0)), (575, .invokevirtual 133, 3, (1, 56, 0)), (578, .iload 5, 2, (0, 0, 0)), (580, .if_icmp .eq 5, 3, (0, 0, 0)), (583, .iconst 0, 1, (0, 0, 0)), (584, .ireturn, 1, (1, 0, 0)), (585, .iload 5, 2, (0, 0, 0)), (587, .ifCond .ne 15, 3, (0, 0, 0)), (590, .aload_n 3, 1, (0, 0, 0)), (591, .iconst 0, 1, (0, 0, 0)), (592, .laload, 1, (0, 0, 0)), (593, .iload 6, 2, (0, 0, 0)), (595, .i2l, 1, (0, 0, 0)), (596, .lcmp, 1, (0, 0, 0)), (597, .ifCond .eq 5, 3, (0, 0, 0)), (600, .iconst 0, 1, (0, 0, 0)), (601, .ireturn, 1, (1, 0, 0)), (602, .goto 2070, 3, (0, 0, 0))]
set_option maxRecDepth 100000 in
theorem ck_size : lkS cl_size k_L_law := lkS_of (by decide +kernel)
theorem lw_size (X : AX) (I J : Nat → Nat → Int) (cc ss : Nat) {Q : (Option AV ⊕ Nat) → AS → Prop} (i : Nat) (hi : i + 6 ≤ X.1) (h72 : X.1 ≤ 3072) (v5 v6 : Option AV) (H : Two X k_L_size k_X9_size (0, [some (vr 0), some (vi (X.2 (i + 1))), some (vi (X.2 (i + 2))), some (vr 145), none], []) (0, [some (vr 135), some (vi (X.2 (i + 1))), some (vi (X.2 (i + 2)))], []) (fun _ => True) I J cc ss) (K : ∀ I' J' c v5 v6, c ≤ 1 → INV I' J' → Ev X k_L_law (2672, [some (vr 1000000), some (vr 0), some (vr 135), some (vr 145), some (vi (i : Int)), v5, v6], []) (MS I' J' (cc + c) (ss + 6 * c)) Q) : Ev X k_L_law (537, [some (vr 1000000), some (vr 0), some (vr 135), some (vr 145), some (vi (i : Int)), v5, v6], []) (MS I J cc ss) (Q) := by
  have hC := ck_size
  refine ev_nL hC (fr' := (542, [some (vr 1000000), some (vr 0), some (vr 135), some (vr 145), some (vi (i : Int)), v5, v6], [vi 1, vi (i : Int), vr 1000000, vr 0])) (S' := MS I J cc ss) 4 rfl ?_
  refine ev_add (z := (i : Int) + 1) (hC _ _ rfl) (by omega) (by omega) (by omega) ?_
  show Ev X k_L_law (543, [some (vr 1000000), some (vr 0), some (vr 135), some (vr 145), some (vi (i : Int)), v5, v6], [vi ((i : Int) + 1), vr 1000000, vr 0]) (MS I J cc ss) _
  refine ev_xsN (j := i + 1) (hC _ _ rfl) rfl (by omega) (by omega) rfl ?_
  show Ev X k_L_law (544, [some (vr 1000000), some (vr 0), some (vr 135), some (vr 145), some (vi (i : Int)), v5, v6], [vi (X.2 (i + 1)), vr 0]) (MS I J cc ss) _
  refine ev_nL hC (fr' := (548, [some (vr 1000000), some (vr 0), some (vr 135), some (vr 145), some (vi (i : Int)), v5, v6], [vi 2, vi (i : Int), vr 1000000, vi (X.2 (i + 1)), vr 0])) (S' := MS I J cc ss) 3 rfl ?_
  refine ev_add (z := (i : Int) + 2) (hC _ _ rfl) (by omega) (by omega) (by omega) ?_
  show Ev X k_L_law (549, [some (vr 1000000), some (vr 0), some (vr 135), some (vr 145), some (vi (i : Int)), v5, v6], [vi ((i : Int) + 2), vr 1000000, vi (X.2 (i + 1)), vr 0]) (MS I J cc ss) _
  refine ev_xsN (j := i + 2) (hC _ _ rfl) rfl (by omega) (by omega) rfl ?_
  show Ev X k_L_law (550, [some (vr 1000000), some (vr 0), some (vr 135), some (vr 145), some (vi (i : Int)), v5, v6], [vi (X.2 (i + 2)), vi (X.2 (i + 1)), vr 0]) (MS I J cc ss) _
  refine ev_nL hC (fr' := (551, [some (vr 1000000), some (vr 0), some (vr 135), some (vr 145), some (vi (i : Int)), v5, v6], [vr 145, vi (X.2 (i + 2)), vi (X.2 (i + 1)), vr 0])) (S' := MS I J cc ss) 1 rfl ?_
  refine ev_ct (hC _ _ rfl) rfl rfl ⟨Nat.le_of_ble_eq_true rfl, Nat.le_of_ble_eq_true rfl⟩ (H) (fun t9 c9 I1 J1 q1 => ?_)
  obtain ⟨hc, hr⟩ := q1
  show Ev X k_L_law (554, [some (vr 1000000), some (vr 0), some (vr 135), some (vr 145), some (vi (i : Int)), v5, v6], [vi (t9 : Int)]) (MS I1 J1 (cc + c9) (ss + 6 * c9)) _
  refine ev_nL hC (fr' := (561, [some (vr 1000000), some (vr 0), some (vr 135), some (vr 145), some (vi (i : Int)), some (vi (t9 : Int)), v6], [vi 1, vi (i : Int), vr 1000000, vr 135])) (S' := MS I1 J1 (cc + c9) (ss + 6 * c9)) 5 rfl ?_
  refine ev_add (z := (i : Int) + 1) (hC _ _ rfl) (by omega) (by omega) (by omega) ?_
  show Ev X k_L_law (562, [some (vr 1000000), some (vr 0), some (vr 135), some (vr 145), some (vi (i : Int)), some (vi (t9 : Int)), v6], [vi ((i : Int) + 1), vr 1000000, vr 135]) (MS I1 J1 (cc + c9) (ss + 6 * c9)) _
  refine ev_xsN (j := i + 1) (hC _ _ rfl) rfl (by omega) (by omega) rfl ?_
  show Ev X k_L_law (563, [some (vr 1000000), some (vr 0), some (vr 135), some (vr 145), some (vi (i : Int)), some (vi (t9 : Int)), v6], [vi (X.2 (i + 1)), vr 135]) (MS I1 J1 (cc + c9) (ss + 6 * c9)) _
  refine ev_nL hC (fr' := (567, [some (vr 1000000), some (vr 0), some (vr 135), some (vr 145), some (vi (i : Int)), some (vi (t9 : Int)), v6], [vi 2, vi (i : Int), vr 1000000, vi (X.2 (i + 1)), vr 135])) (S' := MS I1 J1 (cc + c9) (ss + 6 * c9)) 3 rfl ?_
  refine ev_add (z := (i : Int) + 2) (hC _ _ rfl) (by omega) (by omega) (by omega) ?_
  show Ev X k_L_law (568, [some (vr 1000000), some (vr 0), some (vr 135), some (vr 145), some (vi (i : Int)), some (vi (t9 : Int)), v6], [vi ((i : Int) + 2), vr 1000000, vi (X.2 (i + 1)), vr 135]) (MS I1 J1 (cc + c9) (ss + 6 * c9)) _
  refine ev_xsN (j := i + 2) (hC _ _ rfl) rfl (by omega) (by omega) rfl ?_
  show Ev X k_L_law (569, [some (vr 1000000), some (vr 0), some (vr 135), some (vr 145), some (vi (i : Int)), some (vi (t9 : Int)), v6], [vi (X.2 (i + 2)), vi (X.2 (i + 1)), vr 135]) (MS I1 J1 (cc + c9) (ss + 6 * c9)) _
  refine ev_cz (hC _ _ rfl) rfl rfl ⟨Nat.le_of_ble_eq_true rfl, Nat.le_of_ble_eq_true rfl⟩ (hr) (fun z1 I2 J2 q2 => ?_)
  obtain ⟨h4, hz, hI⟩ := q2
  show Ev X k_L_law (572, [some (vr 1000000), some (vr 0), some (vr 135), some (vr 145), some (vi (i : Int)), some (vi (t9 : Int)), v6], [vi z1]) (MS I2 J2 (cc + c9) (ss + 6 * c9)) _
  refine ev_nL hC (fr' := (575, [some (vr 1000000), some (vr 0), some (vr 135), some (vr 145), some (vi (i : Int)), some (vi (t9 : Int)), some (vi z1)], [vr 135])) (S' := MS I2 J2 (cc + c9) (ss + 6 * c9)) 2 rfl ?_
  refine ev_cv (hC _ _ rfl) rfl rfl ⟨Nat.le_of_ble_eq_true rfl, Nat.le_of_ble_eq_true rfl⟩ (sp_thrown X _ _ _ _ h4) ?_
  show Ev X k_L_law (578, [some (vr 1000000), some (vr 0), some (vr 135), some (vr 145), some (vi (i : Int)), some (vi (t9 : Int)), some (vi z1)], [vi (t9 : Int)]) (MS I2 J2 (cc + c9) (ss + 6 * c9)) _
  refine ev_nL hC (fr' := (580, [some (vr 1000000), some (vr 0), some (vr 135), some (vr 145), some (vi (i : Int)), some (vi (t9 : Int)), some (vi z1)], [vi (t9 : Int), vi (t9 : Int)])) (S' := MS I2 J2 (cc + c9) (ss + 6 * c9)) 1 rfl ?_
  refine ev_ic (c := .eq) (off := 5) (hC _ _ rfl) (by decide) (fun (g1 : (t9 : Int) = (t9 : Int)) => ?_) (fun (g1 : ¬ ((t9 : Int) = (t9 : Int))) => False.elim (g1 rfl))
  show Ev X k_L_law (585, [some (vr 1000000), some (vr 0), some (vr 135), some (vr 145), some (vi (i : Int)), some (vi (t9 : Int)), some (vi z1)], []) (MS I2 J2 (cc + c9) (ss + 6 * c9)) _
  refine ev_nL hC (fr' := (587, [some (vr 1000000), some (vr 0), some (vr 135), some (vr 145), some (vi (i : Int)), some (vi (t9 : Int)), some (vi z1)], [vi (t9 : Int)])) (S' := MS I2 J2 (cc + c9) (ss + 6 * c9)) 1 rfl ?_
  refine ev_if (c := .ne) (off := 15) (hC _ _ rfl) (by decide) (fun (g2 : (t9 : Int) ≠ 0) => ?_) (fun (g2 : ¬ ((t9 : Int) ≠ 0)) => ?_)
  · show Ev X k_L_law (602, [some (vr 1000000), some (vr 0), some (vr 135), some (vr 145), some (vi (i : Int)), some (vi (t9 : Int)), some (vi z1)], []) (MS I2 J2 (cc + c9) (ss + 6 * c9)) _
    refine ev_nL hC (fr' := (2672, [some (vr 1000000), some (vr 0), some (vr 135), some (vr 145), some (vi (i : Int)), some (vi (t9 : Int)), some (vi z1)], [])) (S' := MS I2 J2 (cc + c9) (ss + 6 * c9)) 1 rfl ?_
    exact K _ _ _ _ _ hc hI
  · show Ev X k_L_law (590, [some (vr 1000000), some (vr 0), some (vr 135), some (vr 145), some (vi (i : Int)), some (vi (t9 : Int)), some (vi z1)], []) (MS I2 J2 (cc + c9) (ss + 6 * c9)) _
    refine ev_nL hC (fr' := (592, [some (vr 1000000), some (vr 0), some (vr 135), some (vr 145), some (vi (i : Int)), some (vi (t9 : Int)), some (vi z1)], [vi 0, vr 145])) (S' := MS I2 J2 (cc + c9) (ss + 6 * c9)) 2 rfl ?_
    refine ev_laN (j := 0) (z := (J2 145 0)) (hC _ _ rfl) rfl (by omega) (by omega) (rfl) ?_
    show Ev X k_L_law (593, [some (vr 1000000), some (vr 0), some (vr 135), some (vr 145), some (vi (i : Int)), some (vi (t9 : Int)), some (vi z1)], [vl (J2 145 0)]) (MS I2 J2 (cc + c9) (ss + 6 * c9)) _
    refine ev_nL hC (fr' := (596, [some (vr 1000000), some (vr 0), some (vr 135), some (vr 145), some (vi (i : Int)), some (vi (t9 : Int)), some (vi z1)], [vl z1, vl (J2 145 0)])) (S' := MS I2 J2 (cc + c9) (ss + 6 * c9)) 2 rfl ?_
    refine ev_lc (c := .eq) (off := 5) (hC _ _ rfl) (hC _ _ rfl) (by decide) (fun (g3 : (J2 145 0) = z1) => ?_) (fun (g3 : ¬ ((J2 145 0) = z1)) => False.elim (g3 (hz (by omega)).1))
    show Ev X k_L_law (602, [some (vr 1000000), some (vr 0), some (vr 135), some (vr 145), some (vi (i : Int)), some (vi (t9 : Int)), some (vi z1)], []) (MS I2 J2 (cc + c9) (ss + 6 * c9)) _
    refine ev_nL hC (fr' := (2672, [some (vr 1000000), some (vr 0), some (vr 135), some (vr 145), some (vi (i : Int)), some (vi (t9 : Int)), some (vi z1)], [])) (S' := MS I2 J2 (cc + c9) (ss + 6 * c9)) 1 rfl ?_
    exact K _ _ _ _ _ hc hI
set_option maxRecDepth 100000 in
noncomputable def cl_setExtra : List (Nat × AI) := [(605, .aload_n 1, 1, (0, 0, 0)), (606, .aload_n 0, 1, (0, 0, 0)), (607, .iload 4, 2, (0, 0, 0)), (609, .iconst 1, 1, (0, 0, 0)), (610, .iadd, 1, (0, 0, 0)), (611, .iaload, 1, (0, 0, 0)), (612, .aload_n 0, 1, (0, 0, 0)), (613, .iload 4, 2, (0, 0, 0)), (615, .iconst 2, 1, (0, 0, 0)), (616, .iadd, 1, (0, 0, 0)), (617, .iaload, 1, (0, 0, 0)), (618, .aload_n 3, 1, (0, 0, 0)), (619, .invokestatic 157, 3, (10, 256, 4)), (622, .istore 5, 2, (0, 0, 0)), (624, .aload_n 2, 1, (0, 0, 0)), (625, .aload_n 0, 1, (0, 0, 0)), (626, .iload 4, 2, (0, 0, 0)), (628, .iconst 1, 1, (0, 0, 0)), (629, .iadd, 1, (0, 0, 0)), (630, .iaload, 1, (0, 0, 0)), (631, .aload_n 0, 1, (0, 0, 0)), (632, .iload 4, 2, (0, 0, 0)), (634, .iconst 2, 1, (0, 0, 0)), (635, .iadd, 1, (0, 0, 0)), (636, .iaload, 1, (0, 0, 0)), (637, .invokevirtual 159, 3, (1, 103, 2)), (640, .istore 6, 2, (0, 0, 0)), (642, .aload_n 2, 1, (0, 0, 0)), (643, .invokevirtual 133, 3, (1, 56, 0)), (646, .iload 5, 2, (0, 0, 0)), (648, .if_icmp .eq 5, 3, (0, 0, 0)), (651, .iconst 0, 1, (0, 0, 0)), (652, .ireturn, 1, (1, 0, 0)), (653, .iload 5, 2, (0, 0, 0)), (655, .ifCond .ne 15, 3, (0, 0, 0)), (658, .aload_n 3, 1, (0, 0, 0)), (659, .iconst 0, 1, (0, 0, 0)), (660, .laload, 1, (0, 0, 0)), (661, .iload 6, 2, (0, 0, 0)), (663, .i2l, 1, (0, 0, 0)), (664, .lcmp, 1, (0, 0, 0)), (665, .ifCond .eq 5, 3, (0, 0, 0)), (668, .iconst 0, 1, (0, 0, 0)), (669, .ireturn, 1, (1, 0, 0)), (670, .goto 2002, 3, (0, 0, 0))]
set_option maxRecDepth 100000 in
theorem ck_setExtra : lkS cl_setExtra k_L_law := lkS_of (by decide +kernel)
theorem lw_setExtra (X : AX) (I J : Nat → Nat → Int) (cc ss : Nat) {Q : (Option AV ⊕ Nat) → AS → Prop} (i : Nat) (hi : i + 6 ≤ X.1) (h72 : X.1 ≤ 3072) (v5 v6 : Option AV) (H : Two X k_L_setExtra k_X9_setExtra (0, [some (vr 0), some (vi (X.2 (i + 1))), some (vi (X.2 (i + 2))), some (vr 145), none], []) (0, [some (vr 135), some (vi (X.2 (i + 1))), some (vi (X.2 (i + 2))), none], []) (fun _ => True) I J cc ss) (K : ∀ I' J' c v5 v6, c ≤ 1 → INV I' J' → Ev X k_L_law (2672, [some (vr 1000000), some (vr 0), some (vr 135), some (vr 145), some (vi (i : Int)), v5, v6], []) (MS I' J' (cc + c) (ss + 6 * c)) Q) : Ev X k_L_law (605, [some (vr 1000000), some (vr 0), some (vr 135), some (vr 145), some (vi (i : Int)), v5, v6], []) (MS I J cc ss) (Q) := by
  have hC := ck_setExtra
  refine ev_nL hC (fr' := (610, [some (vr 1000000), some (vr 0), some (vr 135), some (vr 145), some (vi (i : Int)), v5, v6], [vi 1, vi (i : Int), vr 1000000, vr 0])) (S' := MS I J cc ss) 4 rfl ?_
  refine ev_add (z := (i : Int) + 1) (hC _ _ rfl) (by omega) (by omega) (by omega) ?_
  show Ev X k_L_law (611, [some (vr 1000000), some (vr 0), some (vr 135), some (vr 145), some (vi (i : Int)), v5, v6], [vi ((i : Int) + 1), vr 1000000, vr 0]) (MS I J cc ss) _
  refine ev_xsN (j := i + 1) (hC _ _ rfl) rfl (by omega) (by omega) rfl ?_
  show Ev X k_L_law (612, [some (vr 1000000), some (vr 0), some (vr 135), some (vr 145), some (vi (i : Int)), v5, v6], [vi (X.2 (i + 1)), vr 0]) (MS I J cc ss) _
  refine ev_nL hC (fr' := (616, [some (vr 1000000), some (vr 0), some (vr 135), some (vr 145), some (vi (i : Int)), v5, v6], [vi 2, vi (i : Int), vr 1000000, vi (X.2 (i + 1)), vr 0])) (S' := MS I J cc ss) 3 rfl ?_
  refine ev_add (z := (i : Int) + 2) (hC _ _ rfl) (by omega) (by omega) (by omega) ?_
  show Ev X k_L_law (617, [some (vr 1000000), some (vr 0), some (vr 135), some (vr 145), some (vi (i : Int)), v5, v6], [vi ((i : Int) + 2), vr 1000000, vi (X.2 (i + 1)), vr 0]) (MS I J cc ss) _
  refine ev_xsN (j := i + 2) (hC _ _ rfl) rfl (by omega) (by omega) rfl ?_
  show Ev X k_L_law (618, [some (vr 1000000), some (vr 0), some (vr 135), some (vr 145), some (vi (i : Int)), v5, v6], [vi (X.2 (i + 2)), vi (X.2 (i + 1)), vr 0]) (MS I J cc ss) _
  refine ev_nL hC (fr' := (619, [some (vr 1000000), some (vr 0), some (vr 135), some (vr 145), some (vi (i : Int)), v5, v6], [vr 145, vi (X.2 (i + 2)), vi (X.2 (i + 1)), vr 0])) (S' := MS I J cc ss) 1 rfl ?_
  refine ev_ct (hC _ _ rfl) rfl rfl ⟨Nat.le_of_ble_eq_true rfl, Nat.le_of_ble_eq_true rfl⟩ (H) (fun t9 c9 I1 J1 q1 => ?_)
  obtain ⟨hc, hr⟩ := q1
  show Ev X k_L_law (622, [some (vr 1000000), some (vr 0), some (vr 135), some (vr 145), some (vi (i : Int)), v5, v6], [vi (t9 : Int)]) (MS I1 J1 (cc + c9) (ss + 6 * c9)) _
  refine ev_nL hC (fr' := (629, [some (vr 1000000), some (vr 0), some (vr 135), some (vr 145), some (vi (i : Int)), some (vi (t9 : Int)), v6], [vi 1, vi (i : Int), vr 1000000, vr 135])) (S' := MS I1 J1 (cc + c9) (ss + 6 * c9)) 5 rfl ?_
  refine ev_add (z := (i : Int) + 1) (hC _ _ rfl) (by omega) (by omega) (by omega) ?_
  show Ev X k_L_law (630, [some (vr 1000000), some (vr 0), some (vr 135), some (vr 145), some (vi (i : Int)), some (vi (t9 : Int)), v6], [vi ((i : Int) + 1), vr 1000000, vr 135]) (MS I1 J1 (cc + c9) (ss + 6 * c9)) _
  refine ev_xsN (j := i + 1) (hC _ _ rfl) rfl (by omega) (by omega) rfl ?_
  show Ev X k_L_law (631, [some (vr 1000000), some (vr 0), some (vr 135), some (vr 145), some (vi (i : Int)), some (vi (t9 : Int)), v6], [vi (X.2 (i + 1)), vr 135]) (MS I1 J1 (cc + c9) (ss + 6 * c9)) _
  refine ev_nL hC (fr' := (635, [some (vr 1000000), some (vr 0), some (vr 135), some (vr 145), some (vi (i : Int)), some (vi (t9 : Int)), v6], [vi 2, vi (i : Int), vr 1000000, vi (X.2 (i + 1)), vr 135])) (S' := MS I1 J1 (cc + c9) (ss + 6 * c9)) 3 rfl ?_
  refine ev_add (z := (i : Int) + 2) (hC _ _ rfl) (by omega) (by omega) (by omega) ?_
  show Ev X k_L_law (636, [some (vr 1000000), some (vr 0), some (vr 135), some (vr 145), some (vi (i : Int)), some (vi (t9 : Int)), v6], [vi ((i : Int) + 2), vr 1000000, vi (X.2 (i + 1)), vr 135]) (MS I1 J1 (cc + c9) (ss + 6 * c9)) _
  refine ev_xsN (j := i + 2) (hC _ _ rfl) rfl (by omega) (by omega) rfl ?_
  show Ev X k_L_law (637, [some (vr 1000000), some (vr 0), some (vr 135), some (vr 145), some (vi (i : Int)), some (vi (t9 : Int)), v6], [vi (X.2 (i + 2)), vi (X.2 (i + 1)), vr 135]) (MS I1 J1 (cc + c9) (ss + 6 * c9)) _
  refine ev_cz (hC _ _ rfl) rfl rfl ⟨Nat.le_of_ble_eq_true rfl, Nat.le_of_ble_eq_true rfl⟩ (hr) (fun z1 I2 J2 q2 => ?_)
  obtain ⟨h4, hz, hI⟩ := q2
  show Ev X k_L_law (640, [some (vr 1000000), some (vr 0), some (vr 135), some (vr 145), some (vi (i : Int)), some (vi (t9 : Int)), v6], [vi z1]) (MS I2 J2 (cc + c9) (ss + 6 * c9)) _
  refine ev_nL hC (fr' := (643, [some (vr 1000000), some (vr 0), some (vr 135), some (vr 145), some (vi (i : Int)), some (vi (t9 : Int)), some (vi z1)], [vr 135])) (S' := MS I2 J2 (cc + c9) (ss + 6 * c9)) 2 rfl ?_
  refine ev_cv (hC _ _ rfl) rfl rfl ⟨Nat.le_of_ble_eq_true rfl, Nat.le_of_ble_eq_true rfl⟩ (sp_thrown X _ _ _ _ h4) ?_
  show Ev X k_L_law (646, [some (vr 1000000), some (vr 0), some (vr 135), some (vr 145), some (vi (i : Int)), some (vi (t9 : Int)), some (vi z1)], [vi (t9 : Int)]) (MS I2 J2 (cc + c9) (ss + 6 * c9)) _
  refine ev_nL hC (fr' := (648, [some (vr 1000000), some (vr 0), some (vr 135), some (vr 145), some (vi (i : Int)), some (vi (t9 : Int)), some (vi z1)], [vi (t9 : Int), vi (t9 : Int)])) (S' := MS I2 J2 (cc + c9) (ss + 6 * c9)) 1 rfl ?_
  refine ev_ic (c := .eq) (off := 5) (hC _ _ rfl) (by decide) (fun (g1 : (t9 : Int) = (t9 : Int)) => ?_) (fun (g1 : ¬ ((t9 : Int) = (t9 : Int))) => False.elim (g1 rfl))
  show Ev X k_L_law (653, [some (vr 1000000), some (vr 0), some (vr 135), some (vr 145), some (vi (i : Int)), some (vi (t9 : Int)), some (vi z1)], []) (MS I2 J2 (cc + c9) (ss + 6 * c9)) _
  refine ev_nL hC (fr' := (655, [some (vr 1000000), some (vr 0), some (vr 135), some (vr 145), some (vi (i : Int)), some (vi (t9 : Int)), some (vi z1)], [vi (t9 : Int)])) (S' := MS I2 J2 (cc + c9) (ss + 6 * c9)) 1 rfl ?_
  refine ev_if (c := .ne) (off := 15) (hC _ _ rfl) (by decide) (fun (g2 : (t9 : Int) ≠ 0) => ?_) (fun (g2 : ¬ ((t9 : Int) ≠ 0)) => ?_)
  · show Ev X k_L_law (670, [some (vr 1000000), some (vr 0), some (vr 135), some (vr 145), some (vi (i : Int)), some (vi (t9 : Int)), some (vi z1)], []) (MS I2 J2 (cc + c9) (ss + 6 * c9)) _
    refine ev_nL hC (fr' := (2672, [some (vr 1000000), some (vr 0), some (vr 135), some (vr 145), some (vi (i : Int)), some (vi (t9 : Int)), some (vi z1)], [])) (S' := MS I2 J2 (cc + c9) (ss + 6 * c9)) 1 rfl ?_
    exact K _ _ _ _ _ hc hI
  · show Ev X k_L_law (658, [some (vr 1000000), some (vr 0), some (vr 135), some (vr 145), some (vi (i : Int)), some (vi (t9 : Int)), some (vi z1)], []) (MS I2 J2 (cc + c9) (ss + 6 * c9)) _
    refine ev_nL hC (fr' := (660, [some (vr 1000000), some (vr 0), some (vr 135), some (vr 145), some (vi (i : Int)), some (vi (t9 : Int)), some (vi z1)], [vi 0, vr 145])) (S' := MS I2 J2 (cc + c9) (ss + 6 * c9)) 2 rfl ?_
    refine ev_laN (j := 0) (z := (J2 145 0)) (hC _ _ rfl) rfl (by omega) (by omega) (rfl) ?_
    show Ev X k_L_law (661, [some (vr 1000000), some (vr 0), some (vr 135), some (vr 145), some (vi (i : Int)), some (vi (t9 : Int)), some (vi z1)], [vl (J2 145 0)]) (MS I2 J2 (cc + c9) (ss + 6 * c9)) _
    refine ev_nL hC (fr' := (664, [some (vr 1000000), some (vr 0), some (vr 135), some (vr 145), some (vi (i : Int)), some (vi (t9 : Int)), some (vi z1)], [vl z1, vl (J2 145 0)])) (S' := MS I2 J2 (cc + c9) (ss + 6 * c9)) 2 rfl ?_
    refine ev_lc (c := .eq) (off := 5) (hC _ _ rfl) (hC _ _ rfl) (by decide) (fun (g3 : (J2 145 0) = z1) => ?_) (fun (g3 : ¬ ((J2 145 0) = z1)) => False.elim (g3 (hz (by omega)).1))
    show Ev X k_L_law (670, [some (vr 1000000), some (vr 0), some (vr 135), some (vr 145), some (vi (i : Int)), some (vi (t9 : Int)), some (vi z1)], []) (MS I2 J2 (cc + c9) (ss + 6 * c9)) _
    refine ev_nL hC (fr' := (2672, [some (vr 1000000), some (vr 0), some (vr 135), some (vr 145), some (vi (i : Int)), some (vi (t9 : Int)), some (vi z1)], [])) (S' := MS I2 J2 (cc + c9) (ss + 6 * c9)) 1 rfl ?_
    exact K _ _ _ _ _ hc hI
set_option maxRecDepth 100000 in
noncomputable def cl_stroke : List (Nat × AI) := [(673, .aload_n 1, 1, (0, 0, 0)), (674, .aload_n 0, 1, (0, 0, 0)), (675, .iload 4, 2, (0, 0, 0)), (677, .iconst 1, 1, (0, 0, 0)), (678, .iadd, 1, (0, 0, 0)), (679, .iaload, 1, (0, 0, 0)), (680, .aload_n 0, 1, (0, 0, 0)), (681, .iload 4, 2, (0, 0, 0)), (683, .iconst 2, 1, (0, 0, 0)), (684, .iadd, 1, (0, 0, 0)), (685, .iaload, 1, (0, 0, 0)), (686, .aload_n 3, 1, (0, 0, 0)), (687, .invokestatic 160, 3, (10, 257, 4)), (690, .istore 5, 2, (0, 0, 0)), (692, .aload_n 2, 1, (0, 0, 0)), (693, .aload_n 0, 1, (0, 0, 0)), (694, .iload 4, 2, (0, 0, 0)), (696, .iconst 1, 1, (0, 0, 0)), (697, .iadd, 1, (0, 0, 0)), (698, .iaload, 1, (0, 0, 0)), (699, .aload_n 0, 1, (0, 0, 0)), (700, .iload 4, 2, (0, 0, 0)), (702, .iconst 2, 1, (0, 0, 0)), (703, .iadd, 1, (0, 0, 0)), (704, .iaload, 1, (0, 0, 0)), (705, .invokevirtual 162, 3, (1, 106, 2)), (708, .istore 6, 2, (0, 0, 0)), (710, .aload_n 2, 1, (0, 0, 0)), (711, .invokevirtual 133, 3, (1, 56, 0)), (714, .iload 5, 2, (0, 0, 0)), (716, .if_icmp .eq 5, 3, (0, 0, 0)), (719, .iconst 0, 1, (0, 0, 0)), (720, .ireturn, 1, (1, 0, 0)), (721, .iload 5, 2, (0, 0, 0)), (723, .ifCond .ne 15, 3, (0, 0, 0)), (726, .aload_n 3, 1, (0, 0, 0)), (727, .iconst 0, 1, (0, 0, 0)), (728, .laload, 1, (0, 0, 0)), (729, .iload 6, 2, (0, 0, 0)), (731, .i2l, 1, (0, 0, 0)), (732, .lcmp, 1, (0, 0, 0)), (733, .ifCond .eq 5, 3, (0, 0, 0)), (736, .iconst 0, 1, (0, 0, 0)), (737, .ireturn, 1, (1, 0, 0)), (738, .goto 1934, 3, (0, 0, 0))]
set_option maxRecDepth 100000 in
theorem ck_stroke : lkS cl_stroke k_L_law := lkS_of (by decide +kernel)
theorem lw_stroke (X : AX) (I J : Nat → Nat → Int) (cc ss : Nat) {Q : (Option AV ⊕ Nat) → AS → Prop} (i : Nat) (hi : i + 6 ≤ X.1) (h72 : X.1 ≤ 3072) (v5 v6 : Option AV) (H : Two X k_L_stroke k_X9_stroke (0, [some (vr 0), some (vi (X.2 (i + 1))), some (vi (X.2 (i + 2))), some (vr 145), none], []) (0, [some (vr 135), some (vi (X.2 (i + 1))), some (vi (X.2 (i + 2)))], []) (fun _ => True) I J cc ss) (K : ∀ I' J' c v5 v6, c ≤ 1 → INV I' J' → Ev X k_L_law (2672, [some (vr 1000000), some (vr 0), some (vr 135), some (vr 145), some (vi (i : Int)), v5, v6], []) (MS I' J' (cc + c) (ss + 6 * c)) Q) : Ev X k_L_law (673, [some (vr 1000000), some (vr 0), some (vr 135), some (vr 145), some (vi (i : Int)), v5, v6], []) (MS I J cc ss) (Q) := by
  have hC := ck_stroke
  refine ev_nL hC (fr' := (678, [some (vr 1000000), some (vr 0), some (vr 135), some (vr 145), some (vi (i : Int)), v5, v6], [vi 1, vi (i : Int), vr 1000000, vr 0])) (S' := MS I J cc ss) 4 rfl ?_
  refine ev_add (z := (i : Int) + 1) (hC _ _ rfl) (by omega) (by omega) (by omega) ?_
  show Ev X k_L_law (679, [some (vr 1000000), some (vr 0), some (vr 135), some (vr 145), some (vi (i : Int)), v5, v6], [vi ((i : Int) + 1), vr 1000000, vr 0]) (MS I J cc ss) _
  refine ev_xsN (j := i + 1) (hC _ _ rfl) rfl (by omega) (by omega) rfl ?_
  show Ev X k_L_law (680, [some (vr 1000000), some (vr 0), some (vr 135), some (vr 145), some (vi (i : Int)), v5, v6], [vi (X.2 (i + 1)), vr 0]) (MS I J cc ss) _
  refine ev_nL hC (fr' := (684, [some (vr 1000000), some (vr 0), some (vr 135), some (vr 145), some (vi (i : Int)), v5, v6], [vi 2, vi (i : Int), vr 1000000, vi (X.2 (i + 1)), vr 0])) (S' := MS I J cc ss) 3 rfl ?_
  refine ev_add (z := (i : Int) + 2) (hC _ _ rfl) (by omega) (by omega) (by omega) ?_
  show Ev X k_L_law (685, [some (vr 1000000), some (vr 0), some (vr 135), some (vr 145), some (vi (i : Int)), v5, v6], [vi ((i : Int) + 2), vr 1000000, vi (X.2 (i + 1)), vr 0]) (MS I J cc ss) _
  refine ev_xsN (j := i + 2) (hC _ _ rfl) rfl (by omega) (by omega) rfl ?_
  show Ev X k_L_law (686, [some (vr 1000000), some (vr 0), some (vr 135), some (vr 145), some (vi (i : Int)), v5, v6], [vi (X.2 (i + 2)), vi (X.2 (i + 1)), vr 0]) (MS I J cc ss) _
  refine ev_nL hC (fr' := (687, [some (vr 1000000), some (vr 0), some (vr 135), some (vr 145), some (vi (i : Int)), v5, v6], [vr 145, vi (X.2 (i + 2)), vi (X.2 (i + 1)), vr 0])) (S' := MS I J cc ss) 1 rfl ?_
  refine ev_ct (hC _ _ rfl) rfl rfl ⟨Nat.le_of_ble_eq_true rfl, Nat.le_of_ble_eq_true rfl⟩ (H) (fun t9 c9 I1 J1 q1 => ?_)
  obtain ⟨hc, hr⟩ := q1
  show Ev X k_L_law (690, [some (vr 1000000), some (vr 0), some (vr 135), some (vr 145), some (vi (i : Int)), v5, v6], [vi (t9 : Int)]) (MS I1 J1 (cc + c9) (ss + 6 * c9)) _
  refine ev_nL hC (fr' := (697, [some (vr 1000000), some (vr 0), some (vr 135), some (vr 145), some (vi (i : Int)), some (vi (t9 : Int)), v6], [vi 1, vi (i : Int), vr 1000000, vr 135])) (S' := MS I1 J1 (cc + c9) (ss + 6 * c9)) 5 rfl ?_
  refine ev_add (z := (i : Int) + 1) (hC _ _ rfl) (by omega) (by omega) (by omega) ?_
  show Ev X k_L_law (698, [some (vr 1000000), some (vr 0), some (vr 135), some (vr 145), some (vi (i : Int)), some (vi (t9 : Int)), v6], [vi ((i : Int) + 1), vr 1000000, vr 135]) (MS I1 J1 (cc + c9) (ss + 6 * c9)) _
  refine ev_xsN (j := i + 1) (hC _ _ rfl) rfl (by omega) (by omega) rfl ?_
  show Ev X k_L_law (699, [some (vr 1000000), some (vr 0), some (vr 135), some (vr 145), some (vi (i : Int)), some (vi (t9 : Int)), v6], [vi (X.2 (i + 1)), vr 135]) (MS I1 J1 (cc + c9) (ss + 6 * c9)) _
  refine ev_nL hC (fr' := (703, [some (vr 1000000), some (vr 0), some (vr 135), some (vr 145), some (vi (i : Int)), some (vi (t9 : Int)), v6], [vi 2, vi (i : Int), vr 1000000, vi (X.2 (i + 1)), vr 135])) (S' := MS I1 J1 (cc + c9) (ss + 6 * c9)) 3 rfl ?_
  refine ev_add (z := (i : Int) + 2) (hC _ _ rfl) (by omega) (by omega) (by omega) ?_
  show Ev X k_L_law (704, [some (vr 1000000), some (vr 0), some (vr 135), some (vr 145), some (vi (i : Int)), some (vi (t9 : Int)), v6], [vi ((i : Int) + 2), vr 1000000, vi (X.2 (i + 1)), vr 135]) (MS I1 J1 (cc + c9) (ss + 6 * c9)) _
  refine ev_xsN (j := i + 2) (hC _ _ rfl) rfl (by omega) (by omega) rfl ?_
  show Ev X k_L_law (705, [some (vr 1000000), some (vr 0), some (vr 135), some (vr 145), some (vi (i : Int)), some (vi (t9 : Int)), v6], [vi (X.2 (i + 2)), vi (X.2 (i + 1)), vr 135]) (MS I1 J1 (cc + c9) (ss + 6 * c9)) _
  refine ev_cz (hC _ _ rfl) rfl rfl ⟨Nat.le_of_ble_eq_true rfl, Nat.le_of_ble_eq_true rfl⟩ (hr) (fun z1 I2 J2 q2 => ?_)
  obtain ⟨h4, hz, hI⟩ := q2
  show Ev X k_L_law (708, [some (vr 1000000), some (vr 0), some (vr 135), some (vr 145), some (vi (i : Int)), some (vi (t9 : Int)), v6], [vi z1]) (MS I2 J2 (cc + c9) (ss + 6 * c9)) _
  refine ev_nL hC (fr' := (711, [some (vr 1000000), some (vr 0), some (vr 135), some (vr 145), some (vi (i : Int)), some (vi (t9 : Int)), some (vi z1)], [vr 135])) (S' := MS I2 J2 (cc + c9) (ss + 6 * c9)) 2 rfl ?_
  refine ev_cv (hC _ _ rfl) rfl rfl ⟨Nat.le_of_ble_eq_true rfl, Nat.le_of_ble_eq_true rfl⟩ (sp_thrown X _ _ _ _ h4) ?_
  show Ev X k_L_law (714, [some (vr 1000000), some (vr 0), some (vr 135), some (vr 145), some (vi (i : Int)), some (vi (t9 : Int)), some (vi z1)], [vi (t9 : Int)]) (MS I2 J2 (cc + c9) (ss + 6 * c9)) _
  refine ev_nL hC (fr' := (716, [some (vr 1000000), some (vr 0), some (vr 135), some (vr 145), some (vi (i : Int)), some (vi (t9 : Int)), some (vi z1)], [vi (t9 : Int), vi (t9 : Int)])) (S' := MS I2 J2 (cc + c9) (ss + 6 * c9)) 1 rfl ?_
  refine ev_ic (c := .eq) (off := 5) (hC _ _ rfl) (by decide) (fun (g1 : (t9 : Int) = (t9 : Int)) => ?_) (fun (g1 : ¬ ((t9 : Int) = (t9 : Int))) => False.elim (g1 rfl))
  show Ev X k_L_law (721, [some (vr 1000000), some (vr 0), some (vr 135), some (vr 145), some (vi (i : Int)), some (vi (t9 : Int)), some (vi z1)], []) (MS I2 J2 (cc + c9) (ss + 6 * c9)) _
  refine ev_nL hC (fr' := (723, [some (vr 1000000), some (vr 0), some (vr 135), some (vr 145), some (vi (i : Int)), some (vi (t9 : Int)), some (vi z1)], [vi (t9 : Int)])) (S' := MS I2 J2 (cc + c9) (ss + 6 * c9)) 1 rfl ?_
  refine ev_if (c := .ne) (off := 15) (hC _ _ rfl) (by decide) (fun (g2 : (t9 : Int) ≠ 0) => ?_) (fun (g2 : ¬ ((t9 : Int) ≠ 0)) => ?_)
  · show Ev X k_L_law (738, [some (vr 1000000), some (vr 0), some (vr 135), some (vr 145), some (vi (i : Int)), some (vi (t9 : Int)), some (vi z1)], []) (MS I2 J2 (cc + c9) (ss + 6 * c9)) _
    refine ev_nL hC (fr' := (2672, [some (vr 1000000), some (vr 0), some (vr 135), some (vr 145), some (vi (i : Int)), some (vi (t9 : Int)), some (vi z1)], [])) (S' := MS I2 J2 (cc + c9) (ss + 6 * c9)) 1 rfl ?_
    exact K _ _ _ _ _ hc hI
  · show Ev X k_L_law (726, [some (vr 1000000), some (vr 0), some (vr 135), some (vr 145), some (vi (i : Int)), some (vi (t9 : Int)), some (vi z1)], []) (MS I2 J2 (cc + c9) (ss + 6 * c9)) _
    refine ev_nL hC (fr' := (728, [some (vr 1000000), some (vr 0), some (vr 135), some (vr 145), some (vi (i : Int)), some (vi (t9 : Int)), some (vi z1)], [vi 0, vr 145])) (S' := MS I2 J2 (cc + c9) (ss + 6 * c9)) 2 rfl ?_
    refine ev_laN (j := 0) (z := (J2 145 0)) (hC _ _ rfl) rfl (by omega) (by omega) (rfl) ?_
    show Ev X k_L_law (729, [some (vr 1000000), some (vr 0), some (vr 135), some (vr 145), some (vi (i : Int)), some (vi (t9 : Int)), some (vi z1)], [vl (J2 145 0)]) (MS I2 J2 (cc + c9) (ss + 6 * c9)) _
    refine ev_nL hC (fr' := (732, [some (vr 1000000), some (vr 0), some (vr 135), some (vr 145), some (vi (i : Int)), some (vi (t9 : Int)), some (vi z1)], [vl z1, vl (J2 145 0)])) (S' := MS I2 J2 (cc + c9) (ss + 6 * c9)) 2 rfl ?_
    refine ev_lc (c := .eq) (off := 5) (hC _ _ rfl) (hC _ _ rfl) (by decide) (fun (g3 : (J2 145 0) = z1) => ?_) (fun (g3 : ¬ ((J2 145 0) = z1)) => False.elim (g3 (hz (by omega)).1))
    show Ev X k_L_law (738, [some (vr 1000000), some (vr 0), some (vr 135), some (vr 145), some (vi (i : Int)), some (vi (t9 : Int)), some (vi z1)], []) (MS I2 J2 (cc + c9) (ss + 6 * c9)) _
    refine ev_nL hC (fr' := (2672, [some (vr 1000000), some (vr 0), some (vr 135), some (vr 145), some (vi (i : Int)), some (vi (t9 : Int)), some (vi z1)], [])) (S' := MS I2 J2 (cc + c9) (ss + 6 * c9)) 1 rfl ?_
    exact K _ _ _ _ _ hc hI
set_option maxRecDepth 100000 in
noncomputable def cl_part : List (Nat × AI) := [(798, .aload_n 1, 1, (0, 0, 0)), (799, .aload_n 0, 1, (0, 0, 0)), (800, .iload 4, 2, (0, 0, 0)), (802, .iconst 1, 1, (0, 0, 0)), (803, .iadd, 1, (0, 0, 0)), (804, .iaload, 1, (0, 0, 0)), (805, .aload_n 0, 1, (0, 0, 0)), (806, .iload 4, 2, (0, 0, 0)), (808, .iconst 2, 1, (0, 0, 0)), (809, .iadd, 1, (0, 0, 0)), (810, .iaload, 1, (0, 0, 0)), (811, .aload_n 3, 1, (0, 0, 0)), (812, .invokestatic 170, 3, (10, 258, 4)), (815, .istore 5, 2, (0, 0, 0)), (817, .aload_n 2, 1, (0, 0, 0)), (818, .aload_n 0, 1, (0, 0, 0)), (819, .iload 4, 2, (0, 0, 0)), (821, .iconst 1, 1, (0, 0, 0)), (822, .iadd, 1, (0, 0, 0)), (823, .iaload, 1, (0, 0, 0)), (824, .aload_n 0, 1, (0, 0, 0)), (825, .iload 4, 2, (0, 0, 0)), (827, .iconst 2, 1, (0, 0, 0)), (828, .iadd, 1, (0, 0, 0)), (829, .iaload, 1, (0, 0, 0)), (830, .invokevirtual 172, 3, (1, 110, 2)), (833, .istore 6, 2, (0, 0, 0)), (835, .aload_n 2, 1, (0, 0, 0)), (836, .invokevirtual 133, 3, (1, 56, 0)), (839, .iload 5, 2, (0, 0, 0)), (841, .if_icmp .eq 5, 3, (0, 0, 0)), (844, .iconst 0, 1, (0, 0, 0)), (845, .ireturn, 1, (1, 0, 0)), (846, .iload 5, 2, (0, 0, 0)), (848, .ifCond .ne 15, 3, (0, 0, 0)), (851, .aload_n 3, 1, (0, 0, 0)), (852, .iconst 0, 1, (0, 0, 0)), (853, .laload, 1, (0, 0, 0)), (854, .iload 6, 2, (0, 0, 0)), (856, .i2l, 1, (0, 0, 0)), (857, .lcmp, 1, (0, 0, 0)), (858, .ifCond .eq 5, 3, (0, 0, 0)), (861, .iconst 0, 1, (0, 0, 0)), (862, .ireturn, 1, (1, 0, 0)), (863, .goto 1809, 3, (0, 0, 0))]
set_option maxRecDepth 100000 in
theorem ck_part : lkS cl_part k_L_law := lkS_of (by decide +kernel)
theorem lw_part (X : AX) (I J : Nat → Nat → Int) (cc ss : Nat) {Q : (Option AV ⊕ Nat) → AS → Prop} (i : Nat) (hi : i + 6 ≤ X.1) (h72 : X.1 ≤ 3072) (v5 v6 : Option AV) (H : Two X k_L_part k_X9_part (0, [some (vr 0), some (vi (X.2 (i + 1))), some (vi (X.2 (i + 2))), some (vr 145), none], []) (0, [some (vr 135), some (vi (X.2 (i + 1))), some (vi (X.2 (i + 2)))], []) (fun _ => True) I J cc ss) (K : ∀ I' J' c v5 v6, c ≤ 1 → INV I' J' → Ev X k_L_law (2672, [some (vr 1000000), some (vr 0), some (vr 135), some (vr 145), some (vi (i : Int)), v5, v6], []) (MS I' J' (cc + c) (ss + 6 * c)) Q) : Ev X k_L_law (798, [some (vr 1000000), some (vr 0), some (vr 135), some (vr 145), some (vi (i : Int)), v5, v6], []) (MS I J cc ss) (Q) := by
  have hC := ck_part
  refine ev_nL hC (fr' := (803, [some (vr 1000000), some (vr 0), some (vr 135), some (vr 145), some (vi (i : Int)), v5, v6], [vi 1, vi (i : Int), vr 1000000, vr 0])) (S' := MS I J cc ss) 4 rfl ?_
  refine ev_add (z := (i : Int) + 1) (hC _ _ rfl) (by omega) (by omega) (by omega) ?_
  show Ev X k_L_law (804, [some (vr 1000000), some (vr 0), some (vr 135), some (vr 145), some (vi (i : Int)), v5, v6], [vi ((i : Int) + 1), vr 1000000, vr 0]) (MS I J cc ss) _
  refine ev_xsN (j := i + 1) (hC _ _ rfl) rfl (by omega) (by omega) rfl ?_
  show Ev X k_L_law (805, [some (vr 1000000), some (vr 0), some (vr 135), some (vr 145), some (vi (i : Int)), v5, v6], [vi (X.2 (i + 1)), vr 0]) (MS I J cc ss) _
  refine ev_nL hC (fr' := (809, [some (vr 1000000), some (vr 0), some (vr 135), some (vr 145), some (vi (i : Int)), v5, v6], [vi 2, vi (i : Int), vr 1000000, vi (X.2 (i + 1)), vr 0])) (S' := MS I J cc ss) 3 rfl ?_
  refine ev_add (z := (i : Int) + 2) (hC _ _ rfl) (by omega) (by omega) (by omega) ?_
  show Ev X k_L_law (810, [some (vr 1000000), some (vr 0), some (vr 135), some (vr 145), some (vi (i : Int)), v5, v6], [vi ((i : Int) + 2), vr 1000000, vi (X.2 (i + 1)), vr 0]) (MS I J cc ss) _
  refine ev_xsN (j := i + 2) (hC _ _ rfl) rfl (by omega) (by omega) rfl ?_
  show Ev X k_L_law (811, [some (vr 1000000), some (vr 0), some (vr 135), some (vr 145), some (vi (i : Int)), v5, v6], [vi (X.2 (i + 2)), vi (X.2 (i + 1)), vr 0]) (MS I J cc ss) _
  refine ev_nL hC (fr' := (812, [some (vr 1000000), some (vr 0), some (vr 135), some (vr 145), some (vi (i : Int)), v5, v6], [vr 145, vi (X.2 (i + 2)), vi (X.2 (i + 1)), vr 0])) (S' := MS I J cc ss) 1 rfl ?_
  refine ev_ct (hC _ _ rfl) rfl rfl ⟨Nat.le_of_ble_eq_true rfl, Nat.le_of_ble_eq_true rfl⟩ (H) (fun t9 c9 I1 J1 q1 => ?_)
  obtain ⟨hc, hr⟩ := q1
  show Ev X k_L_law (815, [some (vr 1000000), some (vr 0), some (vr 135), some (vr 145), some (vi (i : Int)), v5, v6], [vi (t9 : Int)]) (MS I1 J1 (cc + c9) (ss + 6 * c9)) _
  refine ev_nL hC (fr' := (822, [some (vr 1000000), some (vr 0), some (vr 135), some (vr 145), some (vi (i : Int)), some (vi (t9 : Int)), v6], [vi 1, vi (i : Int), vr 1000000, vr 135])) (S' := MS I1 J1 (cc + c9) (ss + 6 * c9)) 5 rfl ?_
  refine ev_add (z := (i : Int) + 1) (hC _ _ rfl) (by omega) (by omega) (by omega) ?_
  show Ev X k_L_law (823, [some (vr 1000000), some (vr 0), some (vr 135), some (vr 145), some (vi (i : Int)), some (vi (t9 : Int)), v6], [vi ((i : Int) + 1), vr 1000000, vr 135]) (MS I1 J1 (cc + c9) (ss + 6 * c9)) _
  refine ev_xsN (j := i + 1) (hC _ _ rfl) rfl (by omega) (by omega) rfl ?_
  show Ev X k_L_law (824, [some (vr 1000000), some (vr 0), some (vr 135), some (vr 145), some (vi (i : Int)), some (vi (t9 : Int)), v6], [vi (X.2 (i + 1)), vr 135]) (MS I1 J1 (cc + c9) (ss + 6 * c9)) _
  refine ev_nL hC (fr' := (828, [some (vr 1000000), some (vr 0), some (vr 135), some (vr 145), some (vi (i : Int)), some (vi (t9 : Int)), v6], [vi 2, vi (i : Int), vr 1000000, vi (X.2 (i + 1)), vr 135])) (S' := MS I1 J1 (cc + c9) (ss + 6 * c9)) 3 rfl ?_
  refine ev_add (z := (i : Int) + 2) (hC _ _ rfl) (by omega) (by omega) (by omega) ?_
  show Ev X k_L_law (829, [some (vr 1000000), some (vr 0), some (vr 135), some (vr 145), some (vi (i : Int)), some (vi (t9 : Int)), v6], [vi ((i : Int) + 2), vr 1000000, vi (X.2 (i + 1)), vr 135]) (MS I1 J1 (cc + c9) (ss + 6 * c9)) _
  refine ev_xsN (j := i + 2) (hC _ _ rfl) rfl (by omega) (by omega) rfl ?_
  show Ev X k_L_law (830, [some (vr 1000000), some (vr 0), some (vr 135), some (vr 145), some (vi (i : Int)), some (vi (t9 : Int)), v6], [vi (X.2 (i + 2)), vi (X.2 (i + 1)), vr 135]) (MS I1 J1 (cc + c9) (ss + 6 * c9)) _
  refine ev_cz (hC _ _ rfl) rfl rfl ⟨Nat.le_of_ble_eq_true rfl, Nat.le_of_ble_eq_true rfl⟩ (hr) (fun z1 I2 J2 q2 => ?_)
  obtain ⟨h4, hz, hI⟩ := q2
  show Ev X k_L_law (833, [some (vr 1000000), some (vr 0), some (vr 135), some (vr 145), some (vi (i : Int)), some (vi (t9 : Int)), v6], [vi z1]) (MS I2 J2 (cc + c9) (ss + 6 * c9)) _
  refine ev_nL hC (fr' := (836, [some (vr 1000000), some (vr 0), some (vr 135), some (vr 145), some (vi (i : Int)), some (vi (t9 : Int)), some (vi z1)], [vr 135])) (S' := MS I2 J2 (cc + c9) (ss + 6 * c9)) 2 rfl ?_
  refine ev_cv (hC _ _ rfl) rfl rfl ⟨Nat.le_of_ble_eq_true rfl, Nat.le_of_ble_eq_true rfl⟩ (sp_thrown X _ _ _ _ h4) ?_
  show Ev X k_L_law (839, [some (vr 1000000), some (vr 0), some (vr 135), some (vr 145), some (vi (i : Int)), some (vi (t9 : Int)), some (vi z1)], [vi (t9 : Int)]) (MS I2 J2 (cc + c9) (ss + 6 * c9)) _
  refine ev_nL hC (fr' := (841, [some (vr 1000000), some (vr 0), some (vr 135), some (vr 145), some (vi (i : Int)), some (vi (t9 : Int)), some (vi z1)], [vi (t9 : Int), vi (t9 : Int)])) (S' := MS I2 J2 (cc + c9) (ss + 6 * c9)) 1 rfl ?_
  refine ev_ic (c := .eq) (off := 5) (hC _ _ rfl) (by decide) (fun (g1 : (t9 : Int) = (t9 : Int)) => ?_) (fun (g1 : ¬ ((t9 : Int) = (t9 : Int))) => False.elim (g1 rfl))
  show Ev X k_L_law (846, [some (vr 1000000), some (vr 0), some (vr 135), some (vr 145), some (vi (i : Int)), some (vi (t9 : Int)), some (vi z1)], []) (MS I2 J2 (cc + c9) (ss + 6 * c9)) _
  refine ev_nL hC (fr' := (848, [some (vr 1000000), some (vr 0), some (vr 135), some (vr 145), some (vi (i : Int)), some (vi (t9 : Int)), some (vi z1)], [vi (t9 : Int)])) (S' := MS I2 J2 (cc + c9) (ss + 6 * c9)) 1 rfl ?_
  refine ev_if (c := .ne) (off := 15) (hC _ _ rfl) (by decide) (fun (g2 : (t9 : Int) ≠ 0) => ?_) (fun (g2 : ¬ ((t9 : Int) ≠ 0)) => ?_)
  · show Ev X k_L_law (863, [some (vr 1000000), some (vr 0), some (vr 135), some (vr 145), some (vi (i : Int)), some (vi (t9 : Int)), some (vi z1)], []) (MS I2 J2 (cc + c9) (ss + 6 * c9)) _
    refine ev_nL hC (fr' := (2672, [some (vr 1000000), some (vr 0), some (vr 135), some (vr 145), some (vi (i : Int)), some (vi (t9 : Int)), some (vi z1)], [])) (S' := MS I2 J2 (cc + c9) (ss + 6 * c9)) 1 rfl ?_
    exact K _ _ _ _ _ hc hI
  · show Ev X k_L_law (851, [some (vr 1000000), some (vr 0), some (vr 135), some (vr 145), some (vi (i : Int)), some (vi (t9 : Int)), some (vi z1)], []) (MS I2 J2 (cc + c9) (ss + 6 * c9)) _
    refine ev_nL hC (fr' := (853, [some (vr 1000000), some (vr 0), some (vr 135), some (vr 145), some (vi (i : Int)), some (vi (t9 : Int)), some (vi z1)], [vi 0, vr 145])) (S' := MS I2 J2 (cc + c9) (ss + 6 * c9)) 2 rfl ?_
    refine ev_laN (j := 0) (z := (J2 145 0)) (hC _ _ rfl) rfl (by omega) (by omega) (rfl) ?_
    show Ev X k_L_law (854, [some (vr 1000000), some (vr 0), some (vr 135), some (vr 145), some (vi (i : Int)), some (vi (t9 : Int)), some (vi z1)], [vl (J2 145 0)]) (MS I2 J2 (cc + c9) (ss + 6 * c9)) _
    refine ev_nL hC (fr' := (857, [some (vr 1000000), some (vr 0), some (vr 135), some (vr 145), some (vi (i : Int)), some (vi (t9 : Int)), some (vi z1)], [vl z1, vl (J2 145 0)])) (S' := MS I2 J2 (cc + c9) (ss + 6 * c9)) 2 rfl ?_
    refine ev_lc (c := .eq) (off := 5) (hC _ _ rfl) (hC _ _ rfl) (by decide) (fun (g3 : (J2 145 0) = z1) => ?_) (fun (g3 : ¬ ((J2 145 0) = z1)) => False.elim (g3 (hz (by omega)).1))
    show Ev X k_L_law (863, [some (vr 1000000), some (vr 0), some (vr 135), some (vr 145), some (vi (i : Int)), some (vi (t9 : Int)), some (vi z1)], []) (MS I2 J2 (cc + c9) (ss + 6 * c9)) _
    refine ev_nL hC (fr' := (2672, [some (vr 1000000), some (vr 0), some (vr 135), some (vr 145), some (vi (i : Int)), some (vi (t9 : Int)), some (vi z1)], [])) (S' := MS I2 J2 (cc + c9) (ss + 6 * c9)) 1 rfl ?_
    exact K _ _ _ _ _ hc hI
set_option maxRecDepth 100000 in
noncomputable def cl_shape : List (Nat × AI) := [(866, .aload_n 1, 1, (0, 0, 0)), (867, .aload_n 0, 1, (0, 0, 0)), (868, .iload 4, 2, (0, 0, 0)), (870, .iconst 1, 1, (0, 0, 0)), (871, .iadd, 1, (0, 0, 0)), (872, .iaload, 1, (0, 0, 0)), (873, .aload_n 0, 1, (0, 0, 0)), (874, .iload 4, 2, (0, 0, 0)), (876, .iconst 2, 1, (0, 0, 0)), (877, .iadd, 1, (0, 0, 0)), (878, .iaload, 1, (0, 0, 0)), (879, .aload_n 0, 1, (0, 0, 0)), (880, .iload 4, 2, (0, 0, 0)), (882, .iconst 3, 1, (0, 0, 0)), (883, .iadd, 1, (0, 0, 0)), (884, .iaload, 1, (0, 0, 0)), (885, .aload_n 3, 1, (0, 0, 0)), (886, .invokestatic 173, 3, (10, 259, 5)), (889, .istore 5, 2, (0, 0, 0)), (891, .aload_n 2, 1, (0, 0, 0)), (892, .aload_n 0, 1, (0, 0, 0)), (893, .iload 4, 2, (0, 0, 0)), (895, .iconst 1, 1, (0, 0, 0)), (896, .iadd, 1, (0, 0, 0)), (897, .iaload, 1, (0, 0, 0)), (898, .aload_n 0, 1, (0, 0, 0)), (899, .iload 4, 2, (0, 0, 0)), (901, .iconst 2, 1, (0, 0, 0)), (902, .iadd, 1, (0, 0, 0)), (903, .iaload, 1, (0, 0, 0)), (904, .aload_n 0, 1, (0, 0, 0)), (905, .iload 4, 2, (0, 0, 0)), (907, .iconst 3, 1, (0, 0, 0)), (908, .iadd, 1, (0, 0, 0)), (909, .iaload, 1, (0, 0, 0)), (910, .invokevirtual 176, 3, (1, 112, 3)), (913, .istore 6, 2, (0, 0, 0)), (915, .aload_n 2, 1, (0, 0, 0)), (916, .invokevirtual 133, 3, (1, 56, 0)), (919, .iload 5, 2, (0, 0, 0)), (921, .if_icmp .eq 5, 3, (0, 0, 0)), (924, .iconst 0, 1, (0, 0, 0)), (925, .ireturn, 1, (1, 0, 0)), (926, .iload 5, 2, (0, 0, 0)), (928, .ifCond .ne 15, 3, (0, 0, 0)), (931, .aload_n 3, 1, (0, 0, 0)), (932, .iconst 0, 1, (0, 0, 0)), (933, .laload, 1, (0, 0, 0)), (934, .iload 6, 2, (0, 0, 0)), (936, .i2l, 1, (0, 0, 0)), (937, .lcmp, 1, (0, 0, 0)), (938, .ifCond .eq 5, 3, (0, 0, 0)), (941, .iconst 0, 1, (0, 0, 0)), (942, .ireturn, 1, (1, 0, 0)), (943, .goto 1729, 3, (0, 0, 0))]
set_option maxRecDepth 100000 in
theorem ck_shape : lkS cl_shape k_L_law := lkS_of (by decide +kernel)
theorem lw_shape (X : AX) (I J : Nat → Nat → Int) (cc ss : Nat) {Q : (Option AV ⊕ Nat) → AS → Prop} (i : Nat) (hi : i + 6 ≤ X.1) (h72 : X.1 ≤ 3072) (v5 v6 : Option AV) (H : Two X k_L_shape k_X9_shape (0, [some (vr 0), some (vi (X.2 (i + 1))), some (vi (X.2 (i + 2))), some (vi (X.2 (i + 3))), some (vr 145), none], []) (0, [some (vr 135), some (vi (X.2 (i + 1))), some (vi (X.2 (i + 2))), some (vi (X.2 (i + 3)))], []) (fun _ => True) I J cc ss) (K : ∀ I' J' c v5 v6, c ≤ 1 → INV I' J' → Ev X k_L_law (2672, [some (vr 1000000), some (vr 0), some (vr 135), some (vr 145), some (vi (i : Int)), v5, v6], []) (MS I' J' (cc + c) (ss + 6 * c)) Q) : Ev X k_L_law (866, [some (vr 1000000), some (vr 0), some (vr 135), some (vr 145), some (vi (i : Int)), v5, v6], []) (MS I J cc ss) (Q) := by
  have hC := ck_shape
  refine ev_nL hC (fr' := (871, [some (vr 1000000), some (vr 0), some (vr 135), some (vr 145), some (vi (i : Int)), v5, v6], [vi 1, vi (i : Int), vr 1000000, vr 0])) (S' := MS I J cc ss) 4 rfl ?_
  refine ev_add (z := (i : Int) + 1) (hC _ _ rfl) (by omega) (by omega) (by omega) ?_
  show Ev X k_L_law (872, [some (vr 1000000), some (vr 0), some (vr 135), some (vr 145), some (vi (i : Int)), v5, v6], [vi ((i : Int) + 1), vr 1000000, vr 0]) (MS I J cc ss) _
  refine ev_xsN (j := i + 1) (hC _ _ rfl) rfl (by omega) (by omega) rfl ?_
  show Ev X k_L_law (873, [some (vr 1000000), some (vr 0), some (vr 135), some (vr 145), some (vi (i : Int)), v5, v6], [vi (X.2 (i + 1)), vr 0]) (MS I J cc ss) _
  refine ev_nL hC (fr' := (877, [some (vr 1000000), some (vr 0), some (vr 135), some (vr 145), some (vi (i : Int)), v5, v6], [vi 2, vi (i : Int), vr 1000000, vi (X.2 (i + 1)), vr 0])) (S' := MS I J cc ss) 3 rfl ?_
  refine ev_add (z := (i : Int) + 2) (hC _ _ rfl) (by omega) (by omega) (by omega) ?_
  show Ev X k_L_law (878, [some (vr 1000000), some (vr 0), some (vr 135), some (vr 145), some (vi (i : Int)), v5, v6], [vi ((i : Int) + 2), vr 1000000, vi (X.2 (i + 1)), vr 0]) (MS I J cc ss) _
  refine ev_xsN (j := i + 2) (hC _ _ rfl) rfl (by omega) (by omega) rfl ?_
  show Ev X k_L_law (879, [some (vr 1000000), some (vr 0), some (vr 135), some (vr 145), some (vi (i : Int)), v5, v6], [vi (X.2 (i + 2)), vi (X.2 (i + 1)), vr 0]) (MS I J cc ss) _
  refine ev_nL hC (fr' := (883, [some (vr 1000000), some (vr 0), some (vr 135), some (vr 145), some (vi (i : Int)), v5, v6], [vi 3, vi (i : Int), vr 1000000, vi (X.2 (i + 2)), vi (X.2 (i + 1)), vr 0])) (S' := MS I J cc ss) 3 rfl ?_
  refine ev_add (z := (i : Int) + 3) (hC _ _ rfl) (by omega) (by omega) (by omega) ?_
  show Ev X k_L_law (884, [some (vr 1000000), some (vr 0), some (vr 135), some (vr 145), some (vi (i : Int)), v5, v6], [vi ((i : Int) + 3), vr 1000000, vi (X.2 (i + 2)), vi (X.2 (i + 1)), vr 0]) (MS I J cc ss) _
  refine ev_xsN (j := i + 3) (hC _ _ rfl) rfl (by omega) (by omega) rfl ?_
  show Ev X k_L_law (885, [some (vr 1000000), some (vr 0), some (vr 135), some (vr 145), some (vi (i : Int)), v5, v6], [vi (X.2 (i + 3)), vi (X.2 (i + 2)), vi (X.2 (i + 1)), vr 0]) (MS I J cc ss) _
  refine ev_nL hC (fr' := (886, [some (vr 1000000), some (vr 0), some (vr 135), some (vr 145), some (vi (i : Int)), v5, v6], [vr 145, vi (X.2 (i + 3)), vi (X.2 (i + 2)), vi (X.2 (i + 1)), vr 0])) (S' := MS I J cc ss) 1 rfl ?_
  refine ev_ct (hC _ _ rfl) rfl rfl ⟨Nat.le_of_ble_eq_true rfl, Nat.le_of_ble_eq_true rfl⟩ (H) (fun t9 c9 I1 J1 q1 => ?_)
  obtain ⟨hc, hr⟩ := q1
  show Ev X k_L_law (889, [some (vr 1000000), some (vr 0), some (vr 135), some (vr 145), some (vi (i : Int)), v5, v6], [vi (t9 : Int)]) (MS I1 J1 (cc + c9) (ss + 6 * c9)) _
  refine ev_nL hC (fr' := (896, [some (vr 1000000), some (vr 0), some (vr 135), some (vr 145), some (vi (i : Int)), some (vi (t9 : Int)), v6], [vi 1, vi (i : Int), vr 1000000, vr 135])) (S' := MS I1 J1 (cc + c9) (ss + 6 * c9)) 5 rfl ?_
  refine ev_add (z := (i : Int) + 1) (hC _ _ rfl) (by omega) (by omega) (by omega) ?_
  show Ev X k_L_law (897, [some (vr 1000000), some (vr 0), some (vr 135), some (vr 145), some (vi (i : Int)), some (vi (t9 : Int)), v6], [vi ((i : Int) + 1), vr 1000000, vr 135]) (MS I1 J1 (cc + c9) (ss + 6 * c9)) _
  refine ev_xsN (j := i + 1) (hC _ _ rfl) rfl (by omega) (by omega) rfl ?_
  show Ev X k_L_law (898, [some (vr 1000000), some (vr 0), some (vr 135), some (vr 145), some (vi (i : Int)), some (vi (t9 : Int)), v6], [vi (X.2 (i + 1)), vr 135]) (MS I1 J1 (cc + c9) (ss + 6 * c9)) _
  refine ev_nL hC (fr' := (902, [some (vr 1000000), some (vr 0), some (vr 135), some (vr 145), some (vi (i : Int)), some (vi (t9 : Int)), v6], [vi 2, vi (i : Int), vr 1000000, vi (X.2 (i + 1)), vr 135])) (S' := MS I1 J1 (cc + c9) (ss + 6 * c9)) 3 rfl ?_
  refine ev_add (z := (i : Int) + 2) (hC _ _ rfl) (by omega) (by omega) (by omega) ?_
  show Ev X k_L_law (903, [some (vr 1000000), some (vr 0), some (vr 135), some (vr 145), some (vi (i : Int)), some (vi (t9 : Int)), v6], [vi ((i : Int) + 2), vr 1000000, vi (X.2 (i + 1)), vr 135]) (MS I1 J1 (cc + c9) (ss + 6 * c9)) _
  refine ev_xsN (j := i + 2) (hC _ _ rfl) rfl (by omega) (by omega) rfl ?_
  show Ev X k_L_law (904, [some (vr 1000000), some (vr 0), some (vr 135), some (vr 145), some (vi (i : Int)), some (vi (t9 : Int)), v6], [vi (X.2 (i + 2)), vi (X.2 (i + 1)), vr 135]) (MS I1 J1 (cc + c9) (ss + 6 * c9)) _
  refine ev_nL hC (fr' := (908, [some (vr 1000000), some (vr 0), some (vr 135), some (vr 145), some (vi (i : Int)), some (vi (t9 : Int)), v6], [vi 3, vi (i : Int), vr 1000000, vi (X.2 (i + 2)), vi (X.2 (i + 1)), vr 135])) (S' := MS I1 J1 (cc + c9) (ss + 6 * c9)) 3 rfl ?_
  refine ev_add (z := (i : Int) + 3) (hC _ _ rfl) (by omega) (by omega) (by omega) ?_
  show Ev X k_L_law (909, [some (vr 1000000), some (vr 0), some (vr 135), some (vr 145), some (vi (i : Int)), some (vi (t9 : Int)), v6], [vi ((i : Int) + 3), vr 1000000, vi (X.2 (i + 2)), vi (X.2 (i + 1)), vr 135]) (MS I1 J1 (cc + c9) (ss + 6 * c9)) _
  refine ev_xsN (j := i + 3) (hC _ _ rfl) rfl (by omega) (by omega) rfl ?_
  show Ev X k_L_law (910, [some (vr 1000000), some (vr 0), some (vr 135), some (vr 145), some (vi (i : Int)), some (vi (t9 : Int)), v6], [vi (X.2 (i + 3)), vi (X.2 (i + 2)), vi (X.2 (i + 1)), vr 135]) (MS I1 J1 (cc + c9) (ss + 6 * c9)) _
  refine ev_cz (hC _ _ rfl) rfl rfl ⟨Nat.le_of_ble_eq_true rfl, Nat.le_of_ble_eq_true rfl⟩ (hr) (fun z1 I2 J2 q2 => ?_)
  obtain ⟨h4, hz, hI⟩ := q2
  show Ev X k_L_law (913, [some (vr 1000000), some (vr 0), some (vr 135), some (vr 145), some (vi (i : Int)), some (vi (t9 : Int)), v6], [vi z1]) (MS I2 J2 (cc + c9) (ss + 6 * c9)) _
  refine ev_nL hC (fr' := (916, [some (vr 1000000), some (vr 0), some (vr 135), some (vr 145), some (vi (i : Int)), some (vi (t9 : Int)), some (vi z1)], [vr 135])) (S' := MS I2 J2 (cc + c9) (ss + 6 * c9)) 2 rfl ?_
  refine ev_cv (hC _ _ rfl) rfl rfl ⟨Nat.le_of_ble_eq_true rfl, Nat.le_of_ble_eq_true rfl⟩ (sp_thrown X _ _ _ _ h4) ?_
  show Ev X k_L_law (919, [some (vr 1000000), some (vr 0), some (vr 135), some (vr 145), some (vi (i : Int)), some (vi (t9 : Int)), some (vi z1)], [vi (t9 : Int)]) (MS I2 J2 (cc + c9) (ss + 6 * c9)) _
  refine ev_nL hC (fr' := (921, [some (vr 1000000), some (vr 0), some (vr 135), some (vr 145), some (vi (i : Int)), some (vi (t9 : Int)), some (vi z1)], [vi (t9 : Int), vi (t9 : Int)])) (S' := MS I2 J2 (cc + c9) (ss + 6 * c9)) 1 rfl ?_
  refine ev_ic (c := .eq) (off := 5) (hC _ _ rfl) (by decide) (fun (g1 : (t9 : Int) = (t9 : Int)) => ?_) (fun (g1 : ¬ ((t9 : Int) = (t9 : Int))) => False.elim (g1 rfl))
  show Ev X k_L_law (926, [some (vr 1000000), some (vr 0), some (vr 135), some (vr 145), some (vi (i : Int)), some (vi (t9 : Int)), some (vi z1)], []) (MS I2 J2 (cc + c9) (ss + 6 * c9)) _
  refine ev_nL hC (fr' := (928, [some (vr 1000000), some (vr 0), some (vr 135), some (vr 145), some (vi (i : Int)), some (vi (t9 : Int)), some (vi z1)], [vi (t9 : Int)])) (S' := MS I2 J2 (cc + c9) (ss + 6 * c9)) 1 rfl ?_
  refine ev_if (c := .ne) (off := 15) (hC _ _ rfl) (by decide) (fun (g2 : (t9 : Int) ≠ 0) => ?_) (fun (g2 : ¬ ((t9 : Int) ≠ 0)) => ?_)
  · show Ev X k_L_law (943, [some (vr 1000000), some (vr 0), some (vr 135), some (vr 145), some (vi (i : Int)), some (vi (t9 : Int)), some (vi z1)], []) (MS I2 J2 (cc + c9) (ss + 6 * c9)) _
    refine ev_nL hC (fr' := (2672, [some (vr 1000000), some (vr 0), some (vr 135), some (vr 145), some (vi (i : Int)), some (vi (t9 : Int)), some (vi z1)], [])) (S' := MS I2 J2 (cc + c9) (ss + 6 * c9)) 1 rfl ?_
    exact K _ _ _ _ _ hc hI
  · show Ev X k_L_law (931, [some (vr 1000000), some (vr 0), some (vr 135), some (vr 145), some (vi (i : Int)), some (vi (t9 : Int)), some (vi z1)], []) (MS I2 J2 (cc + c9) (ss + 6 * c9)) _
    refine ev_nL hC (fr' := (933, [some (vr 1000000), some (vr 0), some (vr 135), some (vr 145), some (vi (i : Int)), some (vi (t9 : Int)), some (vi z1)], [vi 0, vr 145])) (S' := MS I2 J2 (cc + c9) (ss + 6 * c9)) 2 rfl ?_
    refine ev_laN (j := 0) (z := (J2 145 0)) (hC _ _ rfl) rfl (by omega) (by omega) (rfl) ?_
    show Ev X k_L_law (934, [some (vr 1000000), some (vr 0), some (vr 135), some (vr 145), some (vi (i : Int)), some (vi (t9 : Int)), some (vi z1)], [vl (J2 145 0)]) (MS I2 J2 (cc + c9) (ss + 6 * c9)) _
    refine ev_nL hC (fr' := (937, [some (vr 1000000), some (vr 0), some (vr 135), some (vr 145), some (vi (i : Int)), some (vi (t9 : Int)), some (vi z1)], [vl z1, vl (J2 145 0)])) (S' := MS I2 J2 (cc + c9) (ss + 6 * c9)) 2 rfl ?_
    refine ev_lc (c := .eq) (off := 5) (hC _ _ rfl) (hC _ _ rfl) (by decide) (fun (g3 : (J2 145 0) = z1) => ?_) (fun (g3 : ¬ ((J2 145 0) = z1)) => False.elim (g3 (hz (by omega)).1))
    show Ev X k_L_law (943, [some (vr 1000000), some (vr 0), some (vr 135), some (vr 145), some (vi (i : Int)), some (vi (t9 : Int)), some (vi z1)], []) (MS I2 J2 (cc + c9) (ss + 6 * c9)) _
    refine ev_nL hC (fr' := (2672, [some (vr 1000000), some (vr 0), some (vr 135), some (vr 145), some (vi (i : Int)), some (vi (t9 : Int)), some (vi z1)], [])) (S' := MS I2 J2 (cc + c9) (ss + 6 * c9)) 1 rfl ?_
    exact K _ _ _ _ _ hc hI
set_option maxRecDepth 100000 in
noncomputable def cl_setShape : List (Nat × AI) := [(946, .aload_n 1, 1, (0, 0, 0)), (947, .aload_n 0, 1, (0, 0, 0)), (948, .iload 4, 2, (0, 0, 0)), (950, .iconst 1, 1, (0, 0, 0)), (951, .iadd, 1, (0, 0, 0)), (952, .iaload, 1, (0, 0, 0)), (953, .aload_n 0, 1, (0, 0, 0)), (954, .iload 4, 2, (0, 0, 0)), (956, .iconst 2, 1, (0, 0, 0)), (957, .iadd, 1, (0, 0, 0)), (958, .iaload, 1, (0, 0, 0)), (959, .aload_n 0, 1, (0, 0, 0)), (960, .iload 4, 2, (0, 0, 0)), (962, .iconst 3, 1, (0, 0, 0)), (963, .iadd, 1, (0, 0, 0)), (964, .iaload, 1, (0, 0, 0)), (965, .aload_n 0, 1, (0, 0, 0)), (966, .iload 4, 2, (0, 0, 0)), (968, .iconst 4, 1, (0, 0, 0)), (969, .iadd, 1, (0, 0, 0)), (970, .iaload, 1, (0, 0, 0)), (971, .aload_n 3, 1, (0, 0, 0)), (972, .invokestatic 177, 3, (10, 260, 6)), (975, .istore 5, 2, (0, 0, 0)), (977, .aload_n 2, 1, (0, 0, 0)), (978, .aload_n 0, 1, (0, 0, 0)), (979, .iload 4, 2, (0, 0, 0)), (981, .iconst 1, 1, (0, 0, 0)), (982, .iadd, 1, (0, 0, 0)), (983, .iaload, 1, (0, 0, 0)), (984, .aload_n 0, 1, (0, 0, 0)), (985, .iload 4, 2, (0, 0, 0)), (987, .iconst 2, 1, (0, 0, 0)), (988, .iadd, 1, (0, 0, 0)), (989, .iaload, 1, (0, 0, 0)), (990, .aload_n 0, 1, (0, 0, 0)), (991, .iload 4, 2, (0, 0, 0)), (993, .iconst 3, 1, (0, 0, 0)), (994, .iadd, 1, (0, 0, 0)), (995, .iaload, 1, (0, 0, 0)), (996, .aload_n 0, 1, (0, 0, 0)), (997, .iload 4, 2, (0, 0, 0)), (999, .iconst 4, 1, (0, 0, 0)), (1000, .iadd, 1, (0, 0, 0)), (1001, .iaload, 1, (0, 0, 0)), (1002, .invokevirtual 180, 3, (1, 114, 4)), (1005, .istore 6, 2, (0, 0, 0)), (1007, .aload_n 2, 1, (0, 0, 0)), (1008, .invokevirtual 133, 3, (1, 56, 0)), (1011, .iload 5, 2, (0, 0, 0)), (1013, .if_icmp .eq 5, 3, (0, 0, 0)), (1016, .iconst 0, 1, (0, 0, 0)), (1017, .ireturn, 1, (1, 0, 0)), (1018, .iload 5, 2, (0, 0, 0)), (1020, .ifCond .ne 15, 3, (0, 0, 0)), (1023, .aload_n 3, 1, (0, 0, 0)), (1024, .iconst 0, 1, (0, 0, 0)), (1025, .laload, 1, (0, 0, 0)), (1026, .iload 6, 2, (0, 0, 0)), (1028, .i2l, 1, (0, 0, 0)), (1029, .lcmp, 1, (0, 0, 0)), (1030, .ifCond .eq 5, 3, (0, 0, 0)), (1033, .iconst 0, 1, (0, 0, 0)), (1034, .ireturn, 1, (1, 0, 0)), (1035, .goto 1637, 3, (0, 0, 0))]
set_option maxRecDepth 100000 in
theorem ck_setShape : lkS cl_setShape k_L_law := lkS_of (by decide +kernel)
theorem lw_setShape (X : AX) (I J : Nat → Nat → Int) (cc ss : Nat) {Q : (Option AV ⊕ Nat) → AS → Prop} (i : Nat) (hi : i + 6 ≤ X.1) (h72 : X.1 ≤ 3072) (v5 v6 : Option AV) (H : Two X k_L_setShape k_X9_setShape (0, [some (vr 0), some (vi (X.2 (i + 1))), some (vi (X.2 (i + 2))), some (vi (X.2 (i + 3))), some (vi (X.2 (i + 4))), some (vr 145), none], []) (0, [some (vr 135), some (vi (X.2 (i + 1))), some (vi (X.2 (i + 2))), some (vi (X.2 (i + 3))), some (vi (X.2 (i + 4))), none], []) (fun _ => True) I J cc ss) (K : ∀ I' J' c v5 v6, c ≤ 1 → INV I' J' → Ev X k_L_law (2672, [some (vr 1000000), some (vr 0), some (vr 135), some (vr 145), some (vi (i : Int)), v5, v6], []) (MS I' J' (cc + c) (ss + 6 * c)) Q) : Ev X k_L_law (946, [some (vr 1000000), some (vr 0), some (vr 135), some (vr 145), some (vi (i : Int)), v5, v6], []) (MS I J cc ss) (Q) := by
  have hC := ck_setShape
  refine ev_nL hC (fr' := (951, [some (vr 1000000), some (vr 0), some (vr 135), some (vr 145), some (vi (i : Int)), v5, v6], [vi 1, vi (i : Int), vr 1000000, vr 0])) (S' := MS I J cc ss) 4 rfl ?_
  refine ev_add (z := (i : Int) + 1) (hC _ _ rfl) (by omega) (by omega) (by omega) ?_
  show Ev X k_L_law (952, [some (vr 1000000), some (vr 0), some (vr 135), some (vr 145), some (vi (i : Int)), v5, v6], [vi ((i : Int) + 1), vr 1000000, vr 0]) (MS I J cc ss) _
  refine ev_xsN (j := i + 1) (hC _ _ rfl) rfl (by omega) (by omega) rfl ?_
  show Ev X k_L_law (953, [some (vr 1000000), some (vr 0), some (vr 135), some (vr 145), some (vi (i : Int)), v5, v6], [vi (X.2 (i + 1)), vr 0]) (MS I J cc ss) _
  refine ev_nL hC (fr' := (957, [some (vr 1000000), some (vr 0), some (vr 135), some (vr 145), some (vi (i : Int)), v5, v6], [vi 2, vi (i : Int), vr 1000000, vi (X.2 (i + 1)), vr 0])) (S' := MS I J cc ss) 3 rfl ?_
  refine ev_add (z := (i : Int) + 2) (hC _ _ rfl) (by omega) (by omega) (by omega) ?_
  show Ev X k_L_law (958, [some (vr 1000000), some (vr 0), some (vr 135), some (vr 145), some (vi (i : Int)), v5, v6], [vi ((i : Int) + 2), vr 1000000, vi (X.2 (i + 1)), vr 0]) (MS I J cc ss) _
  refine ev_xsN (j := i + 2) (hC _ _ rfl) rfl (by omega) (by omega) rfl ?_
  show Ev X k_L_law (959, [some (vr 1000000), some (vr 0), some (vr 135), some (vr 145), some (vi (i : Int)), v5, v6], [vi (X.2 (i + 2)), vi (X.2 (i + 1)), vr 0]) (MS I J cc ss) _
  refine ev_nL hC (fr' := (963, [some (vr 1000000), some (vr 0), some (vr 135), some (vr 145), some (vi (i : Int)), v5, v6], [vi 3, vi (i : Int), vr 1000000, vi (X.2 (i + 2)), vi (X.2 (i + 1)), vr 0])) (S' := MS I J cc ss) 3 rfl ?_
  refine ev_add (z := (i : Int) + 3) (hC _ _ rfl) (by omega) (by omega) (by omega) ?_
  show Ev X k_L_law (964, [some (vr 1000000), some (vr 0), some (vr 135), some (vr 145), some (vi (i : Int)), v5, v6], [vi ((i : Int) + 3), vr 1000000, vi (X.2 (i + 2)), vi (X.2 (i + 1)), vr 0]) (MS I J cc ss) _
  refine ev_xsN (j := i + 3) (hC _ _ rfl) rfl (by omega) (by omega) rfl ?_
  show Ev X k_L_law (965, [some (vr 1000000), some (vr 0), some (vr 135), some (vr 145), some (vi (i : Int)), v5, v6], [vi (X.2 (i + 3)), vi (X.2 (i + 2)), vi (X.2 (i + 1)), vr 0]) (MS I J cc ss) _
  refine ev_nL hC (fr' := (969, [some (vr 1000000), some (vr 0), some (vr 135), some (vr 145), some (vi (i : Int)), v5, v6], [vi 4, vi (i : Int), vr 1000000, vi (X.2 (i + 3)), vi (X.2 (i + 2)), vi (X.2 (i + 1)), vr 0])) (S' := MS I J cc ss) 3 rfl ?_
  refine ev_add (z := (i : Int) + 4) (hC _ _ rfl) (by omega) (by omega) (by omega) ?_
  show Ev X k_L_law (970, [some (vr 1000000), some (vr 0), some (vr 135), some (vr 145), some (vi (i : Int)), v5, v6], [vi ((i : Int) + 4), vr 1000000, vi (X.2 (i + 3)), vi (X.2 (i + 2)), vi (X.2 (i + 1)), vr 0]) (MS I J cc ss) _
  refine ev_xsN (j := i + 4) (hC _ _ rfl) rfl (by omega) (by omega) rfl ?_
  show Ev X k_L_law (971, [some (vr 1000000), some (vr 0), some (vr 135), some (vr 145), some (vi (i : Int)), v5, v6], [vi (X.2 (i + 4)), vi (X.2 (i + 3)), vi (X.2 (i + 2)), vi (X.2 (i + 1)), vr 0]) (MS I J cc ss) _
  refine ev_nL hC (fr' := (972, [some (vr 1000000), some (vr 0), some (vr 135), some (vr 145), some (vi (i : Int)), v5, v6], [vr 145, vi (X.2 (i + 4)), vi (X.2 (i + 3)), vi (X.2 (i + 2)), vi (X.2 (i + 1)), vr 0])) (S' := MS I J cc ss) 1 rfl ?_
  refine ev_ct (hC _ _ rfl) rfl rfl ⟨Nat.le_of_ble_eq_true rfl, Nat.le_of_ble_eq_true rfl⟩ (H) (fun t9 c9 I1 J1 q1 => ?_)
  obtain ⟨hc, hr⟩ := q1
  show Ev X k_L_law (975, [some (vr 1000000), some (vr 0), some (vr 135), some (vr 145), some (vi (i : Int)), v5, v6], [vi (t9 : Int)]) (MS I1 J1 (cc + c9) (ss + 6 * c9)) _
  refine ev_nL hC (fr' := (982, [some (vr 1000000), some (vr 0), some (vr 135), some (vr 145), some (vi (i : Int)), some (vi (t9 : Int)), v6], [vi 1, vi (i : Int), vr 1000000, vr 135])) (S' := MS I1 J1 (cc + c9) (ss + 6 * c9)) 5 rfl ?_
  refine ev_add (z := (i : Int) + 1) (hC _ _ rfl) (by omega) (by omega) (by omega) ?_
  show Ev X k_L_law (983, [some (vr 1000000), some (vr 0), some (vr 135), some (vr 145), some (vi (i : Int)), some (vi (t9 : Int)), v6], [vi ((i : Int) + 1), vr 1000000, vr 135]) (MS I1 J1 (cc + c9) (ss + 6 * c9)) _
  refine ev_xsN (j := i + 1) (hC _ _ rfl) rfl (by omega) (by omega) rfl ?_
  show Ev X k_L_law (984, [some (vr 1000000), some (vr 0), some (vr 135), some (vr 145), some (vi (i : Int)), some (vi (t9 : Int)), v6], [vi (X.2 (i + 1)), vr 135]) (MS I1 J1 (cc + c9) (ss + 6 * c9)) _
  refine ev_nL hC (fr' := (988, [some (vr 1000000), some (vr 0), some (vr 135), some (vr 145), some (vi (i : Int)), some (vi (t9 : Int)), v6], [vi 2, vi (i : Int), vr 1000000, vi (X.2 (i + 1)), vr 135])) (S' := MS I1 J1 (cc + c9) (ss + 6 * c9)) 3 rfl ?_
  refine ev_add (z := (i : Int) + 2) (hC _ _ rfl) (by omega) (by omega) (by omega) ?_
  show Ev X k_L_law (989, [some (vr 1000000), some (vr 0), some (vr 135), some (vr 145), some (vi (i : Int)), some (vi (t9 : Int)), v6], [vi ((i : Int) + 2), vr 1000000, vi (X.2 (i + 1)), vr 135]) (MS I1 J1 (cc + c9) (ss + 6 * c9)) _
  refine ev_xsN (j := i + 2) (hC _ _ rfl) rfl (by omega) (by omega) rfl ?_
  show Ev X k_L_law (990, [some (vr 1000000), some (vr 0), some (vr 135), some (vr 145), some (vi (i : Int)), some (vi (t9 : Int)), v6], [vi (X.2 (i + 2)), vi (X.2 (i + 1)), vr 135]) (MS I1 J1 (cc + c9) (ss + 6 * c9)) _
  refine ev_nL hC (fr' := (994, [some (vr 1000000), some (vr 0), some (vr 135), some (vr 145), some (vi (i : Int)), some (vi (t9 : Int)), v6], [vi 3, vi (i : Int), vr 1000000, vi (X.2 (i + 2)), vi (X.2 (i + 1)), vr 135])) (S' := MS I1 J1 (cc + c9) (ss + 6 * c9)) 3 rfl ?_
  refine ev_add (z := (i : Int) + 3) (hC _ _ rfl) (by omega) (by omega) (by omega) ?_
  show Ev X k_L_law (995, [some (vr 1000000), some (vr 0), some (vr 135), some (vr 145), some (vi (i : Int)), some (vi (t9 : Int)), v6], [vi ((i : Int) + 3), vr 1000000, vi (X.2 (i + 2)), vi (X.2 (i + 1)), vr 135]) (MS I1 J1 (cc + c9) (ss + 6 * c9)) _
  refine ev_xsN (j := i + 3) (hC _ _ rfl) rfl (by omega) (by omega) rfl ?_
  show Ev X k_L_law (996, [some (vr 1000000), some (vr 0), some (vr 135), some (vr 145), some (vi (i : Int)), some (vi (t9 : Int)), v6], [vi (X.2 (i + 3)), vi (X.2 (i + 2)), vi (X.2 (i + 1)), vr 135]) (MS I1 J1 (cc + c9) (ss + 6 * c9)) _
  refine ev_nL hC (fr' := (1000, [some (vr 1000000), some (vr 0), some (vr 135), some (vr 145), some (vi (i : Int)), some (vi (t9 : Int)), v6], [vi 4, vi (i : Int), vr 1000000, vi (X.2 (i + 3)), vi (X.2 (i + 2)), vi (X.2 (i + 1)), vr 135])) (S' := MS I1 J1 (cc + c9) (ss + 6 * c9)) 3 rfl ?_
  refine ev_add (z := (i : Int) + 4) (hC _ _ rfl) (by omega) (by omega) (by omega) ?_
  show Ev X k_L_law (1001, [some (vr 1000000), some (vr 0), some (vr 135), some (vr 145), some (vi (i : Int)), some (vi (t9 : Int)), v6], [vi ((i : Int) + 4), vr 1000000, vi (X.2 (i + 3)), vi (X.2 (i + 2)), vi (X.2 (i + 1)), vr 135]) (MS I1 J1 (cc + c9) (ss + 6 * c9)) _
  refine ev_xsN (j := i + 4) (hC _ _ rfl) rfl (by omega) (by omega) rfl ?_
  show Ev X k_L_law (1002, [some (vr 1000000), some (vr 0), some (vr 135), some (vr 145), some (vi (i : Int)), some (vi (t9 : Int)), v6], [vi (X.2 (i + 4)), vi (X.2 (i + 3)), vi (X.2 (i + 2)), vi (X.2 (i + 1)), vr 135]) (MS I1 J1 (cc + c9) (ss + 6 * c9)) _
  refine ev_cz (hC _ _ rfl) rfl rfl ⟨Nat.le_of_ble_eq_true rfl, Nat.le_of_ble_eq_true rfl⟩ (hr) (fun z1 I2 J2 q2 => ?_)
  obtain ⟨h4, hz, hI⟩ := q2
  show Ev X k_L_law (1005, [some (vr 1000000), some (vr 0), some (vr 135), some (vr 145), some (vi (i : Int)), some (vi (t9 : Int)), v6], [vi z1]) (MS I2 J2 (cc + c9) (ss + 6 * c9)) _
  refine ev_nL hC (fr' := (1008, [some (vr 1000000), some (vr 0), some (vr 135), some (vr 145), some (vi (i : Int)), some (vi (t9 : Int)), some (vi z1)], [vr 135])) (S' := MS I2 J2 (cc + c9) (ss + 6 * c9)) 2 rfl ?_
  refine ev_cv (hC _ _ rfl) rfl rfl ⟨Nat.le_of_ble_eq_true rfl, Nat.le_of_ble_eq_true rfl⟩ (sp_thrown X _ _ _ _ h4) ?_
  show Ev X k_L_law (1011, [some (vr 1000000), some (vr 0), some (vr 135), some (vr 145), some (vi (i : Int)), some (vi (t9 : Int)), some (vi z1)], [vi (t9 : Int)]) (MS I2 J2 (cc + c9) (ss + 6 * c9)) _
  refine ev_nL hC (fr' := (1013, [some (vr 1000000), some (vr 0), some (vr 135), some (vr 145), some (vi (i : Int)), some (vi (t9 : Int)), some (vi z1)], [vi (t9 : Int), vi (t9 : Int)])) (S' := MS I2 J2 (cc + c9) (ss + 6 * c9)) 1 rfl ?_
  refine ev_ic (c := .eq) (off := 5) (hC _ _ rfl) (by decide) (fun (g1 : (t9 : Int) = (t9 : Int)) => ?_) (fun (g1 : ¬ ((t9 : Int) = (t9 : Int))) => False.elim (g1 rfl))
  show Ev X k_L_law (1018, [some (vr 1000000), some (vr 0), some (vr 135), some (vr 145), some (vi (i : Int)), some (vi (t9 : Int)), some (vi z1)], []) (MS I2 J2 (cc + c9) (ss + 6 * c9)) _
  refine ev_nL hC (fr' := (1020, [some (vr 1000000), some (vr 0), some (vr 135), some (vr 145), some (vi (i : Int)), some (vi (t9 : Int)), some (vi z1)], [vi (t9 : Int)])) (S' := MS I2 J2 (cc + c9) (ss + 6 * c9)) 1 rfl ?_
  refine ev_if (c := .ne) (off := 15) (hC _ _ rfl) (by decide) (fun (g2 : (t9 : Int) ≠ 0) => ?_) (fun (g2 : ¬ ((t9 : Int) ≠ 0)) => ?_)
  · show Ev X k_L_law (1035, [some (vr 1000000), some (vr 0), some (vr 135), some (vr 145), some (vi (i : Int)), some (vi (t9 : Int)), some (vi z1)], []) (MS I2 J2 (cc + c9) (ss + 6 * c9)) _
    refine ev_nL hC (fr' := (2672, [some (vr 1000000), some (vr 0), some (vr 135), some (vr 145), some (vi (i : Int)), some (vi (t9 : Int)), some (vi z1)], [])) (S' := MS I2 J2 (cc + c9) (ss + 6 * c9)) 1 rfl ?_
    exact K _ _ _ _ _ hc hI
  · show Ev X k_L_law (1023, [some (vr 1000000), some (vr 0), some (vr 135), some (vr 145), some (vi (i : Int)), some (vi (t9 : Int)), some (vi z1)], []) (MS I2 J2 (cc + c9) (ss + 6 * c9)) _
    refine ev_nL hC (fr' := (1025, [some (vr 1000000), some (vr 0), some (vr 135), some (vr 145), some (vi (i : Int)), some (vi (t9 : Int)), some (vi z1)], [vi 0, vr 145])) (S' := MS I2 J2 (cc + c9) (ss + 6 * c9)) 2 rfl ?_
    refine ev_laN (j := 0) (z := (J2 145 0)) (hC _ _ rfl) rfl (by omega) (by omega) (rfl) ?_
    show Ev X k_L_law (1026, [some (vr 1000000), some (vr 0), some (vr 135), some (vr 145), some (vi (i : Int)), some (vi (t9 : Int)), some (vi z1)], [vl (J2 145 0)]) (MS I2 J2 (cc + c9) (ss + 6 * c9)) _
    refine ev_nL hC (fr' := (1029, [some (vr 1000000), some (vr 0), some (vr 135), some (vr 145), some (vi (i : Int)), some (vi (t9 : Int)), some (vi z1)], [vl z1, vl (J2 145 0)])) (S' := MS I2 J2 (cc + c9) (ss + 6 * c9)) 2 rfl ?_
    refine ev_lc (c := .eq) (off := 5) (hC _ _ rfl) (hC _ _ rfl) (by decide) (fun (g3 : (J2 145 0) = z1) => ?_) (fun (g3 : ¬ ((J2 145 0) = z1)) => False.elim (g3 (hz (by omega)).1))
    show Ev X k_L_law (1035, [some (vr 1000000), some (vr 0), some (vr 135), some (vr 145), some (vi (i : Int)), some (vi (t9 : Int)), some (vi z1)], []) (MS I2 J2 (cc + c9) (ss + 6 * c9)) _
    refine ev_nL hC (fr' := (2672, [some (vr 1000000), some (vr 0), some (vr 135), some (vr 145), some (vi (i : Int)), some (vi (t9 : Int)), some (vi z1)], [])) (S' := MS I2 J2 (cc + c9) (ss + 6 * c9)) 1 rfl ?_
    exact K _ _ _ _ _ hc hI
set_option maxRecDepth 100000 in
noncomputable def cl_moveShape : List (Nat × AI) := [(1038, .aload_n 1, 1, (0, 0, 0)), (1039, .aload_n 0, 1, (0, 0, 0)), (1040, .iload 4, 2, (0, 0, 0)), (1042, .iconst 1, 1, (0, 0, 0)), (1043, .iadd, 1, (0, 0, 0)), (1044, .iaload, 1, (0, 0, 0)), (1045, .aload_n 0, 1, (0, 0, 0)), (1046, .iload 4, 2, (0, 0, 0)), (1048, .iconst 2, 1, (0, 0, 0)), (1049, .iadd, 1, (0, 0, 0)), (1050, .iaload, 1, (0, 0, 0)), (1051, .aload_n 0, 1, (0, 0, 0)), (1052, .iload 4, 2, (0, 0, 0)), (1054, .iconst 3, 1, (0, 0, 0)), (1055, .iadd, 1, (0, 0, 0)), (1056, .iaload, 1, (0, 0, 0)), (1057, .aload_n 0, 1, (0, 0, 0)), (1058, .iload 4, 2, (0, 0, 0)), (1060, .iconst 4, 1, (0, 0, 0)), (1061, .iadd, 1, (0, 0, 0)), (1062, .iaload, 1, (0, 0, 0)), (1063, .aload_n 3, 1, (0, 0, 0)), (1064, .invokestatic 181, 3, (10, 261, 6)), (1067, .istore 5, 2, (0, 0, 0)), (1069, .aload_n 2, 1, (0, 0, 0)), (1070, .aload_n 0, 1, (0, 0, 0)), (1071, .iload 4, 2, (0, 0, 0)), (1073, .iconst 1, 1, (0, 0, 0)), (1074, .iadd, 1, (0, 0, 0)), (1075, .iaload, 1, (0, 0, 0)), (1076, .aload_n 0, 1, (0, 0, 0)), (1077, .iload 4, 2, (0, 0, 0)), (1079, .iconst 2, 1, (0, 0, 0)), (1080, .iadd, 1, (0, 0, 0)), (1081, .iaload, 1, (0, 0, 0)), (1082, .aload_n 0, 1, (0, 0, 0)), (1083, .iload 4, 2, (0, 0, 0)), (1085, .iconst 3, 1, (0, 0, 0)), (1086, .iadd, 1, (0, 0, 0)), (1087, .iaload, 1, (0, 0, 0)), (1088, .aload_n 0, 1, (0, 0, 0)), (1089, .iload 4, 2, (0, 0, 0)), (1091, .iconst 4, 1, (0, 0, 0)), (1092, .iadd, 1, (0, 0, 0)), (1093, .iaload, 1, (0, 0, 0)), (1094, .invokevirtual 183, 3, (1, 119, 4)), (1097, .istore 6, 2, (0, 0, 0)), (1099, .aload_n 2, 1, (0, 0, 0)), (1100, .invokevirtual 133, 3, (1, 56, 0)), (1103, .iload 5, 2, (0, 0, 0)), (1105, .if_icmp .eq 5, 3, (0, 0, 0)), (1108, .iconst 0, 1, (0, 0, 0)), (1109, .ireturn, 1, (1, 0, 0)), (1110, .iload 5, 2, (0, 0, 0)), (1112, .ifCond .ne 15, 3, (0, 0, 0)), (1115, .aload_n 3, 1, (0, 0, 0)), (1116, .iconst 0, 1, (0, 0, 0)), (1117, .laload, 1, (0, 0, 0)), (1118, .iload 6, 2, (0, 0, 0)), (1120, .i2l, 1, (0, 0, 0)), (1121, .lcmp, 1, (0, 0, 0)), (1122, .ifCond .eq 5, 3, (0, 0, 0)), (1125, .iconst 0, 1, (0, 0, 0)), (1126, .ireturn, 1, (1, 0, 0)), (1127, .goto 1545, 3, (0, 0, 0))]
set_option maxRecDepth 100000 in
theorem ck_moveShape : lkS cl_moveShape k_L_law := lkS_of (by decide +kernel)
theorem lw_moveShape (X : AX) (I J : Nat → Nat → Int) (cc ss : Nat) {Q : (Option AV ⊕ Nat) → AS → Prop} (i : Nat) (hi : i + 6 ≤ X.1) (h72 : X.1 ≤ 3072) (v5 v6 : Option AV) (H : Two X k_L_moveShape k_X9_moveShape (0, [some (vr 0), some (vi (X.2 (i + 1))), some (vi (X.2 (i + 2))), some (vi (X.2 (i + 3))), some (vi (X.2 (i + 4))), some (vr 145), none], []) (0, [some (vr 135), some (vi (X.2 (i + 1))), some (vi (X.2 (i + 2))), some (vi (X.2 (i + 3))), some (vi (X.2 (i + 4)))], []) (fun _ => True) I J cc ss) (K : ∀ I' J' c v5 v6, c ≤ 1 → INV I' J' → Ev X k_L_law (2672, [some (vr 1000000), some (vr 0), some (vr 135), some (vr 145), some (vi (i : Int)), v5, v6], []) (MS I' J' (cc + c) (ss + 6 * c)) Q) : Ev X k_L_law (1038, [some (vr 1000000), some (vr 0), some (vr 135), some (vr 145), some (vi (i : Int)), v5, v6], []) (MS I J cc ss) (Q) := by
  have hC := ck_moveShape
  refine ev_nL hC (fr' := (1043, [some (vr 1000000), some (vr 0), some (vr 135), some (vr 145), some (vi (i : Int)), v5, v6], [vi 1, vi (i : Int), vr 1000000, vr 0])) (S' := MS I J cc ss) 4 rfl ?_
  refine ev_add (z := (i : Int) + 1) (hC _ _ rfl) (by omega) (by omega) (by omega) ?_
  show Ev X k_L_law (1044, [some (vr 1000000), some (vr 0), some (vr 135), some (vr 145), some (vi (i : Int)), v5, v6], [vi ((i : Int) + 1), vr 1000000, vr 0]) (MS I J cc ss) _
  refine ev_xsN (j := i + 1) (hC _ _ rfl) rfl (by omega) (by omega) rfl ?_
  show Ev X k_L_law (1045, [some (vr 1000000), some (vr 0), some (vr 135), some (vr 145), some (vi (i : Int)), v5, v6], [vi (X.2 (i + 1)), vr 0]) (MS I J cc ss) _
  refine ev_nL hC (fr' := (1049, [some (vr 1000000), some (vr 0), some (vr 135), some (vr 145), some (vi (i : Int)), v5, v6], [vi 2, vi (i : Int), vr 1000000, vi (X.2 (i + 1)), vr 0])) (S' := MS I J cc ss) 3 rfl ?_
  refine ev_add (z := (i : Int) + 2) (hC _ _ rfl) (by omega) (by omega) (by omega) ?_
  show Ev X k_L_law (1050, [some (vr 1000000), some (vr 0), some (vr 135), some (vr 145), some (vi (i : Int)), v5, v6], [vi ((i : Int) + 2), vr 1000000, vi (X.2 (i + 1)), vr 0]) (MS I J cc ss) _
  refine ev_xsN (j := i + 2) (hC _ _ rfl) rfl (by omega) (by omega) rfl ?_
  show Ev X k_L_law (1051, [some (vr 1000000), some (vr 0), some (vr 135), some (vr 145), some (vi (i : Int)), v5, v6], [vi (X.2 (i + 2)), vi (X.2 (i + 1)), vr 0]) (MS I J cc ss) _
  refine ev_nL hC (fr' := (1055, [some (vr 1000000), some (vr 0), some (vr 135), some (vr 145), some (vi (i : Int)), v5, v6], [vi 3, vi (i : Int), vr 1000000, vi (X.2 (i + 2)), vi (X.2 (i + 1)), vr 0])) (S' := MS I J cc ss) 3 rfl ?_
  refine ev_add (z := (i : Int) + 3) (hC _ _ rfl) (by omega) (by omega) (by omega) ?_
  show Ev X k_L_law (1056, [some (vr 1000000), some (vr 0), some (vr 135), some (vr 145), some (vi (i : Int)), v5, v6], [vi ((i : Int) + 3), vr 1000000, vi (X.2 (i + 2)), vi (X.2 (i + 1)), vr 0]) (MS I J cc ss) _
  refine ev_xsN (j := i + 3) (hC _ _ rfl) rfl (by omega) (by omega) rfl ?_
  show Ev X k_L_law (1057, [some (vr 1000000), some (vr 0), some (vr 135), some (vr 145), some (vi (i : Int)), v5, v6], [vi (X.2 (i + 3)), vi (X.2 (i + 2)), vi (X.2 (i + 1)), vr 0]) (MS I J cc ss) _
  refine ev_nL hC (fr' := (1061, [some (vr 1000000), some (vr 0), some (vr 135), some (vr 145), some (vi (i : Int)), v5, v6], [vi 4, vi (i : Int), vr 1000000, vi (X.2 (i + 3)), vi (X.2 (i + 2)), vi (X.2 (i + 1)), vr 0])) (S' := MS I J cc ss) 3 rfl ?_
  refine ev_add (z := (i : Int) + 4) (hC _ _ rfl) (by omega) (by omega) (by omega) ?_
  show Ev X k_L_law (1062, [some (vr 1000000), some (vr 0), some (vr 135), some (vr 145), some (vi (i : Int)), v5, v6], [vi ((i : Int) + 4), vr 1000000, vi (X.2 (i + 3)), vi (X.2 (i + 2)), vi (X.2 (i + 1)), vr 0]) (MS I J cc ss) _
  refine ev_xsN (j := i + 4) (hC _ _ rfl) rfl (by omega) (by omega) rfl ?_
  show Ev X k_L_law (1063, [some (vr 1000000), some (vr 0), some (vr 135), some (vr 145), some (vi (i : Int)), v5, v6], [vi (X.2 (i + 4)), vi (X.2 (i + 3)), vi (X.2 (i + 2)), vi (X.2 (i + 1)), vr 0]) (MS I J cc ss) _
  refine ev_nL hC (fr' := (1064, [some (vr 1000000), some (vr 0), some (vr 135), some (vr 145), some (vi (i : Int)), v5, v6], [vr 145, vi (X.2 (i + 4)), vi (X.2 (i + 3)), vi (X.2 (i + 2)), vi (X.2 (i + 1)), vr 0])) (S' := MS I J cc ss) 1 rfl ?_
  refine ev_ct (hC _ _ rfl) rfl rfl ⟨Nat.le_of_ble_eq_true rfl, Nat.le_of_ble_eq_true rfl⟩ (H) (fun t9 c9 I1 J1 q1 => ?_)
  obtain ⟨hc, hr⟩ := q1
  show Ev X k_L_law (1067, [some (vr 1000000), some (vr 0), some (vr 135), some (vr 145), some (vi (i : Int)), v5, v6], [vi (t9 : Int)]) (MS I1 J1 (cc + c9) (ss + 6 * c9)) _
  refine ev_nL hC (fr' := (1074, [some (vr 1000000), some (vr 0), some (vr 135), some (vr 145), some (vi (i : Int)), some (vi (t9 : Int)), v6], [vi 1, vi (i : Int), vr 1000000, vr 135])) (S' := MS I1 J1 (cc + c9) (ss + 6 * c9)) 5 rfl ?_
  refine ev_add (z := (i : Int) + 1) (hC _ _ rfl) (by omega) (by omega) (by omega) ?_
  show Ev X k_L_law (1075, [some (vr 1000000), some (vr 0), some (vr 135), some (vr 145), some (vi (i : Int)), some (vi (t9 : Int)), v6], [vi ((i : Int) + 1), vr 1000000, vr 135]) (MS I1 J1 (cc + c9) (ss + 6 * c9)) _
  refine ev_xsN (j := i + 1) (hC _ _ rfl) rfl (by omega) (by omega) rfl ?_
  show Ev X k_L_law (1076, [some (vr 1000000), some (vr 0), some (vr 135), some (vr 145), some (vi (i : Int)), some (vi (t9 : Int)), v6], [vi (X.2 (i + 1)), vr 135]) (MS I1 J1 (cc + c9) (ss + 6 * c9)) _
  refine ev_nL hC (fr' := (1080, [some (vr 1000000), some (vr 0), some (vr 135), some (vr 145), some (vi (i : Int)), some (vi (t9 : Int)), v6], [vi 2, vi (i : Int), vr 1000000, vi (X.2 (i + 1)), vr 135])) (S' := MS I1 J1 (cc + c9) (ss + 6 * c9)) 3 rfl ?_
  refine ev_add (z := (i : Int) + 2) (hC _ _ rfl) (by omega) (by omega) (by omega) ?_
  show Ev X k_L_law (1081, [some (vr 1000000), some (vr 0), some (vr 135), some (vr 145), some (vi (i : Int)), some (vi (t9 : Int)), v6], [vi ((i : Int) + 2), vr 1000000, vi (X.2 (i + 1)), vr 135]) (MS I1 J1 (cc + c9) (ss + 6 * c9)) _
  refine ev_xsN (j := i + 2) (hC _ _ rfl) rfl (by omega) (by omega) rfl ?_
  show Ev X k_L_law (1082, [some (vr 1000000), some (vr 0), some (vr 135), some (vr 145), some (vi (i : Int)), some (vi (t9 : Int)), v6], [vi (X.2 (i + 2)), vi (X.2 (i + 1)), vr 135]) (MS I1 J1 (cc + c9) (ss + 6 * c9)) _
  refine ev_nL hC (fr' := (1086, [some (vr 1000000), some (vr 0), some (vr 135), some (vr 145), some (vi (i : Int)), some (vi (t9 : Int)), v6], [vi 3, vi (i : Int), vr 1000000, vi (X.2 (i + 2)), vi (X.2 (i + 1)), vr 135])) (S' := MS I1 J1 (cc + c9) (ss + 6 * c9)) 3 rfl ?_
  refine ev_add (z := (i : Int) + 3) (hC _ _ rfl) (by omega) (by omega) (by omega) ?_
  show Ev X k_L_law (1087, [some (vr 1000000), some (vr 0), some (vr 135), some (vr 145), some (vi (i : Int)), some (vi (t9 : Int)), v6], [vi ((i : Int) + 3), vr 1000000, vi (X.2 (i + 2)), vi (X.2 (i + 1)), vr 135]) (MS I1 J1 (cc + c9) (ss + 6 * c9)) _
  refine ev_xsN (j := i + 3) (hC _ _ rfl) rfl (by omega) (by omega) rfl ?_
  show Ev X k_L_law (1088, [some (vr 1000000), some (vr 0), some (vr 135), some (vr 145), some (vi (i : Int)), some (vi (t9 : Int)), v6], [vi (X.2 (i + 3)), vi (X.2 (i + 2)), vi (X.2 (i + 1)), vr 135]) (MS I1 J1 (cc + c9) (ss + 6 * c9)) _
  refine ev_nL hC (fr' := (1092, [some (vr 1000000), some (vr 0), some (vr 135), some (vr 145), some (vi (i : Int)), some (vi (t9 : Int)), v6], [vi 4, vi (i : Int), vr 1000000, vi (X.2 (i + 3)), vi (X.2 (i + 2)), vi (X.2 (i + 1)), vr 135])) (S' := MS I1 J1 (cc + c9) (ss + 6 * c9)) 3 rfl ?_
  refine ev_add (z := (i : Int) + 4) (hC _ _ rfl) (by omega) (by omega) (by omega) ?_
  show Ev X k_L_law (1093, [some (vr 1000000), some (vr 0), some (vr 135), some (vr 145), some (vi (i : Int)), some (vi (t9 : Int)), v6], [vi ((i : Int) + 4), vr 1000000, vi (X.2 (i + 3)), vi (X.2 (i + 2)), vi (X.2 (i + 1)), vr 135]) (MS I1 J1 (cc + c9) (ss + 6 * c9)) _
  refine ev_xsN (j := i + 4) (hC _ _ rfl) rfl (by omega) (by omega) rfl ?_
  show Ev X k_L_law (1094, [some (vr 1000000), some (vr 0), some (vr 135), some (vr 145), some (vi (i : Int)), some (vi (t9 : Int)), v6], [vi (X.2 (i + 4)), vi (X.2 (i + 3)), vi (X.2 (i + 2)), vi (X.2 (i + 1)), vr 135]) (MS I1 J1 (cc + c9) (ss + 6 * c9)) _
  refine ev_cz (hC _ _ rfl) rfl rfl ⟨Nat.le_of_ble_eq_true rfl, Nat.le_of_ble_eq_true rfl⟩ (hr) (fun z1 I2 J2 q2 => ?_)
  obtain ⟨h4, hz, hI⟩ := q2
  show Ev X k_L_law (1097, [some (vr 1000000), some (vr 0), some (vr 135), some (vr 145), some (vi (i : Int)), some (vi (t9 : Int)), v6], [vi z1]) (MS I2 J2 (cc + c9) (ss + 6 * c9)) _
  refine ev_nL hC (fr' := (1100, [some (vr 1000000), some (vr 0), some (vr 135), some (vr 145), some (vi (i : Int)), some (vi (t9 : Int)), some (vi z1)], [vr 135])) (S' := MS I2 J2 (cc + c9) (ss + 6 * c9)) 2 rfl ?_
  refine ev_cv (hC _ _ rfl) rfl rfl ⟨Nat.le_of_ble_eq_true rfl, Nat.le_of_ble_eq_true rfl⟩ (sp_thrown X _ _ _ _ h4) ?_
  show Ev X k_L_law (1103, [some (vr 1000000), some (vr 0), some (vr 135), some (vr 145), some (vi (i : Int)), some (vi (t9 : Int)), some (vi z1)], [vi (t9 : Int)]) (MS I2 J2 (cc + c9) (ss + 6 * c9)) _
  refine ev_nL hC (fr' := (1105, [some (vr 1000000), some (vr 0), some (vr 135), some (vr 145), some (vi (i : Int)), some (vi (t9 : Int)), some (vi z1)], [vi (t9 : Int), vi (t9 : Int)])) (S' := MS I2 J2 (cc + c9) (ss + 6 * c9)) 1 rfl ?_
  refine ev_ic (c := .eq) (off := 5) (hC _ _ rfl) (by decide) (fun (g1 : (t9 : Int) = (t9 : Int)) => ?_) (fun (g1 : ¬ ((t9 : Int) = (t9 : Int))) => False.elim (g1 rfl))
  show Ev X k_L_law (1110, [some (vr 1000000), some (vr 0), some (vr 135), some (vr 145), some (vi (i : Int)), some (vi (t9 : Int)), some (vi z1)], []) (MS I2 J2 (cc + c9) (ss + 6 * c9)) _
  refine ev_nL hC (fr' := (1112, [some (vr 1000000), some (vr 0), some (vr 135), some (vr 145), some (vi (i : Int)), some (vi (t9 : Int)), some (vi z1)], [vi (t9 : Int)])) (S' := MS I2 J2 (cc + c9) (ss + 6 * c9)) 1 rfl ?_
  refine ev_if (c := .ne) (off := 15) (hC _ _ rfl) (by decide) (fun (g2 : (t9 : Int) ≠ 0) => ?_) (fun (g2 : ¬ ((t9 : Int) ≠ 0)) => ?_)
  · show Ev X k_L_law (1127, [some (vr 1000000), some (vr 0), some (vr 135), some (vr 145), some (vi (i : Int)), some (vi (t9 : Int)), some (vi z1)], []) (MS I2 J2 (cc + c9) (ss + 6 * c9)) _
    refine ev_nL hC (fr' := (2672, [some (vr 1000000), some (vr 0), some (vr 135), some (vr 145), some (vi (i : Int)), some (vi (t9 : Int)), some (vi z1)], [])) (S' := MS I2 J2 (cc + c9) (ss + 6 * c9)) 1 rfl ?_
    exact K _ _ _ _ _ hc hI
  · show Ev X k_L_law (1115, [some (vr 1000000), some (vr 0), some (vr 135), some (vr 145), some (vi (i : Int)), some (vi (t9 : Int)), some (vi z1)], []) (MS I2 J2 (cc + c9) (ss + 6 * c9)) _
    refine ev_nL hC (fr' := (1117, [some (vr 1000000), some (vr 0), some (vr 135), some (vr 145), some (vi (i : Int)), some (vi (t9 : Int)), some (vi z1)], [vi 0, vr 145])) (S' := MS I2 J2 (cc + c9) (ss + 6 * c9)) 2 rfl ?_
    refine ev_laN (j := 0) (z := (J2 145 0)) (hC _ _ rfl) rfl (by omega) (by omega) (rfl) ?_
    show Ev X k_L_law (1118, [some (vr 1000000), some (vr 0), some (vr 135), some (vr 145), some (vi (i : Int)), some (vi (t9 : Int)), some (vi z1)], [vl (J2 145 0)]) (MS I2 J2 (cc + c9) (ss + 6 * c9)) _
    refine ev_nL hC (fr' := (1121, [some (vr 1000000), some (vr 0), some (vr 135), some (vr 145), some (vi (i : Int)), some (vi (t9 : Int)), some (vi z1)], [vl z1, vl (J2 145 0)])) (S' := MS I2 J2 (cc + c9) (ss + 6 * c9)) 2 rfl ?_
    refine ev_lc (c := .eq) (off := 5) (hC _ _ rfl) (hC _ _ rfl) (by decide) (fun (g3 : (J2 145 0) = z1) => ?_) (fun (g3 : ¬ ((J2 145 0) = z1)) => False.elim (g3 (hz (by omega)).1))
    show Ev X k_L_law (1127, [some (vr 1000000), some (vr 0), some (vr 135), some (vr 145), some (vi (i : Int)), some (vi (t9 : Int)), some (vi z1)], []) (MS I2 J2 (cc + c9) (ss + 6 * c9)) _
    refine ev_nL hC (fr' := (2672, [some (vr 1000000), some (vr 0), some (vr 135), some (vr 145), some (vi (i : Int)), some (vi (t9 : Int)), some (vi z1)], [])) (S' := MS I2 J2 (cc + c9) (ss + 6 * c9)) 1 rfl ?_
    exact K _ _ _ _ _ hc hI
set_option maxRecDepth 100000 in
noncomputable def cl_copyShape : List (Nat × AI) := [(1130, .aload_n 1, 1, (0, 0, 0)), (1131, .aload_n 0, 1, (0, 0, 0)), (1132, .iload 4, 2, (0, 0, 0)), (1134, .iconst 1, 1, (0, 0, 0)), (1135, .iadd, 1, (0, 0, 0)), (1136, .iaload, 1, (0, 0, 0)), (1137, .aload_n 0, 1, (0, 0, 0)), (1138, .iload 4, 2, (0, 0, 0)), (1140, .iconst 2, 1, (0, 0, 0)), (1141, .iadd, 1, (0, 0, 0)), (1142, .iaload, 1, (0, 0, 0)), (1143, .aload_n 0, 1, (0, 0, 0)), (1144, .iload 4, 2, (0, 0, 0)), (1146, .iconst 3, 1, (0, 0, 0)), (1147, .iadd, 1, (0, 0, 0)), (1148, .iaload, 1, (0, 0, 0)), (1149, .aload_n 0, 1, (0, 0, 0)), (1150, .iload 4, 2, (0, 0, 0)), (1152, .iconst 4, 1, (0, 0, 0)), (1153, .iadd, 1, (0, 0, 0)), (1154, .iaload, 1, (0, 0, 0)), (1155, .aload_n 3, 1, (0, 0, 0)), (1156, .invokestatic 184, 3, (10, 262, 6)), (1159, .istore 5, 2, (0, 0, 0)), (1161, .aload_n 2, 1, (0, 0, 0)), (1162, .aload_n 0, 1, (0, 0, 0)), (1163, .iload 4, 2, (0, 0, 0)), (1165, .iconst 1, 1, (0, 0, 0)), (1166, .iadd, 1, (0, 0, 0)), (1167, .iaload, 1, (0, 0, 0)), (1168, .aload_n 0, 1, (0, 0, 0)), (1169, .iload 4, 2, (0, 0, 0)), (1171, .iconst 2, 1, (0, 0, 0)), (1172, .iadd, 1, (0, 0, 0)), (1173, .iaload, 1, (0, 0, 0)), (1174, .aload_n 0, 1, (0, 0, 0)), (1175, .iload 4, 2, (0, 0, 0)), (1177, .iconst 3, 1, (0, 0, 0)), (1178, .iadd, 1, (0, 0, 0)), (1179, .iaload, 1, (0, 0, 0)), (1180, .aload_n 0, 1, (0, 0, 0)), (1181, .iload 4, 2, (0, 0, 0)), (1183, .iconst 4, 1, (0, 0, 0)), (1184, .iadd, 1, (0, 0, 0)), (1185, .iaload, 1, (0, 0, 0)), (1186, .invokevirtual 186, 3, (1, 120, 4)), (1189, .istore 6, 2, (0, 0, 0)), (1191, .aload_n 2, 1, (0, 0, 0)), (1192, .invokevirtual 133, 3, (1, 56, 0)), (1195, .iload 5, 2, (0, 0, 0)), (1197, .if_icmp .eq 5, 3, (0, 0, 0)), (1200, .iconst 0, 1, (0, 0, 0)), (1201, .ireturn, 1, (1, 0, 0)), (1202, .iload 5, 2, (0, 0, 0)), (1204, .ifCond .ne 15, 3, (0, 0, 0)), (1207, .aload_n 3, 1, (0, 0, 0)), (1208, .iconst 0, 1, (0, 0, 0)), (1209, .laload, 1, (0, 0, 0)), (1210, .iload 6, 2, (0, 0, 0)), (1212, .i2l, 1, (0, 0, 0)), (1213, .lcmp, 1, (0, 0, 0)), (1214, .ifCond .eq 5, 3, (0, 0, 0)), (1217, .iconst 0, 1, (0, 0, 0)), (1218, .ireturn, 1, (1, 0, 0)), (1219, .goto 1453, 3, (0, 0, 0))]
set_option maxRecDepth 100000 in
theorem ck_copyShape : lkS cl_copyShape k_L_law := lkS_of (by decide +kernel)
theorem lw_copyShape (X : AX) (I J : Nat → Nat → Int) (cc ss : Nat) {Q : (Option AV ⊕ Nat) → AS → Prop} (i : Nat) (hi : i + 6 ≤ X.1) (h72 : X.1 ≤ 3072) (v5 v6 : Option AV) (H : Two X k_L_copyShape k_X9_copyShape (0, [some (vr 0), some (vi (X.2 (i + 1))), some (vi (X.2 (i + 2))), some (vi (X.2 (i + 3))), some (vi (X.2 (i + 4))), some (vr 145), none], []) (0, [some (vr 135), some (vi (X.2 (i + 1))), some (vi (X.2 (i + 2))), some (vi (X.2 (i + 3))), some (vi (X.2 (i + 4))), none, none], []) (fun _ => True) I J cc ss) (K : ∀ I' J' c v5 v6, c ≤ 1 → INV I' J' → Ev X k_L_law (2672, [some (vr 1000000), some (vr 0), some (vr 135), some (vr 145), some (vi (i : Int)), v5, v6], []) (MS I' J' (cc + c) (ss + 6 * c)) Q) : Ev X k_L_law (1130, [some (vr 1000000), some (vr 0), some (vr 135), some (vr 145), some (vi (i : Int)), v5, v6], []) (MS I J cc ss) (Q) := by
  have hC := ck_copyShape
  refine ev_nL hC (fr' := (1135, [some (vr 1000000), some (vr 0), some (vr 135), some (vr 145), some (vi (i : Int)), v5, v6], [vi 1, vi (i : Int), vr 1000000, vr 0])) (S' := MS I J cc ss) 4 rfl ?_
  refine ev_add (z := (i : Int) + 1) (hC _ _ rfl) (by omega) (by omega) (by omega) ?_
  show Ev X k_L_law (1136, [some (vr 1000000), some (vr 0), some (vr 135), some (vr 145), some (vi (i : Int)), v5, v6], [vi ((i : Int) + 1), vr 1000000, vr 0]) (MS I J cc ss) _
  refine ev_xsN (j := i + 1) (hC _ _ rfl) rfl (by omega) (by omega) rfl ?_
  show Ev X k_L_law (1137, [some (vr 1000000), some (vr 0), some (vr 135), some (vr 145), some (vi (i : Int)), v5, v6], [vi (X.2 (i + 1)), vr 0]) (MS I J cc ss) _
  refine ev_nL hC (fr' := (1141, [some (vr 1000000), some (vr 0), some (vr 135), some (vr 145), some (vi (i : Int)), v5, v6], [vi 2, vi (i : Int), vr 1000000, vi (X.2 (i + 1)), vr 0])) (S' := MS I J cc ss) 3 rfl ?_
  refine ev_add (z := (i : Int) + 2) (hC _ _ rfl) (by omega) (by omega) (by omega) ?_
  show Ev X k_L_law (1142, [some (vr 1000000), some (vr 0), some (vr 135), some (vr 145), some (vi (i : Int)), v5, v6], [vi ((i : Int) + 2), vr 1000000, vi (X.2 (i + 1)), vr 0]) (MS I J cc ss) _
  refine ev_xsN (j := i + 2) (hC _ _ rfl) rfl (by omega) (by omega) rfl ?_
  show Ev X k_L_law (1143, [some (vr 1000000), some (vr 0), some (vr 135), some (vr 145), some (vi (i : Int)), v5, v6], [vi (X.2 (i + 2)), vi (X.2 (i + 1)), vr 0]) (MS I J cc ss) _
  refine ev_nL hC (fr' := (1147, [some (vr 1000000), some (vr 0), some (vr 135), some (vr 145), some (vi (i : Int)), v5, v6], [vi 3, vi (i : Int), vr 1000000, vi (X.2 (i + 2)), vi (X.2 (i + 1)), vr 0])) (S' := MS I J cc ss) 3 rfl ?_
  refine ev_add (z := (i : Int) + 3) (hC _ _ rfl) (by omega) (by omega) (by omega) ?_
  show Ev X k_L_law (1148, [some (vr 1000000), some (vr 0), some (vr 135), some (vr 145), some (vi (i : Int)), v5, v6], [vi ((i : Int) + 3), vr 1000000, vi (X.2 (i + 2)), vi (X.2 (i + 1)), vr 0]) (MS I J cc ss) _
  refine ev_xsN (j := i + 3) (hC _ _ rfl) rfl (by omega) (by omega) rfl ?_
  show Ev X k_L_law (1149, [some (vr 1000000), some (vr 0), some (vr 135), some (vr 145), some (vi (i : Int)), v5, v6], [vi (X.2 (i + 3)), vi (X.2 (i + 2)), vi (X.2 (i + 1)), vr 0]) (MS I J cc ss) _
  refine ev_nL hC (fr' := (1153, [some (vr 1000000), some (vr 0), some (vr 135), some (vr 145), some (vi (i : Int)), v5, v6], [vi 4, vi (i : Int), vr 1000000, vi (X.2 (i + 3)), vi (X.2 (i + 2)), vi (X.2 (i + 1)), vr 0])) (S' := MS I J cc ss) 3 rfl ?_
  refine ev_add (z := (i : Int) + 4) (hC _ _ rfl) (by omega) (by omega) (by omega) ?_
  show Ev X k_L_law (1154, [some (vr 1000000), some (vr 0), some (vr 135), some (vr 145), some (vi (i : Int)), v5, v6], [vi ((i : Int) + 4), vr 1000000, vi (X.2 (i + 3)), vi (X.2 (i + 2)), vi (X.2 (i + 1)), vr 0]) (MS I J cc ss) _
  refine ev_xsN (j := i + 4) (hC _ _ rfl) rfl (by omega) (by omega) rfl ?_
  show Ev X k_L_law (1155, [some (vr 1000000), some (vr 0), some (vr 135), some (vr 145), some (vi (i : Int)), v5, v6], [vi (X.2 (i + 4)), vi (X.2 (i + 3)), vi (X.2 (i + 2)), vi (X.2 (i + 1)), vr 0]) (MS I J cc ss) _
  refine ev_nL hC (fr' := (1156, [some (vr 1000000), some (vr 0), some (vr 135), some (vr 145), some (vi (i : Int)), v5, v6], [vr 145, vi (X.2 (i + 4)), vi (X.2 (i + 3)), vi (X.2 (i + 2)), vi (X.2 (i + 1)), vr 0])) (S' := MS I J cc ss) 1 rfl ?_
  refine ev_ct (hC _ _ rfl) rfl rfl ⟨Nat.le_of_ble_eq_true rfl, Nat.le_of_ble_eq_true rfl⟩ (H) (fun t9 c9 I1 J1 q1 => ?_)
  obtain ⟨hc, hr⟩ := q1
  show Ev X k_L_law (1159, [some (vr 1000000), some (vr 0), some (vr 135), some (vr 145), some (vi (i : Int)), v5, v6], [vi (t9 : Int)]) (MS I1 J1 (cc + c9) (ss + 6 * c9)) _
  refine ev_nL hC (fr' := (1166, [some (vr 1000000), some (vr 0), some (vr 135), some (vr 145), some (vi (i : Int)), some (vi (t9 : Int)), v6], [vi 1, vi (i : Int), vr 1000000, vr 135])) (S' := MS I1 J1 (cc + c9) (ss + 6 * c9)) 5 rfl ?_
  refine ev_add (z := (i : Int) + 1) (hC _ _ rfl) (by omega) (by omega) (by omega) ?_
  show Ev X k_L_law (1167, [some (vr 1000000), some (vr 0), some (vr 135), some (vr 145), some (vi (i : Int)), some (vi (t9 : Int)), v6], [vi ((i : Int) + 1), vr 1000000, vr 135]) (MS I1 J1 (cc + c9) (ss + 6 * c9)) _
  refine ev_xsN (j := i + 1) (hC _ _ rfl) rfl (by omega) (by omega) rfl ?_
  show Ev X k_L_law (1168, [some (vr 1000000), some (vr 0), some (vr 135), some (vr 145), some (vi (i : Int)), some (vi (t9 : Int)), v6], [vi (X.2 (i + 1)), vr 135]) (MS I1 J1 (cc + c9) (ss + 6 * c9)) _
  refine ev_nL hC (fr' := (1172, [some (vr 1000000), some (vr 0), some (vr 135), some (vr 145), some (vi (i : Int)), some (vi (t9 : Int)), v6], [vi 2, vi (i : Int), vr 1000000, vi (X.2 (i + 1)), vr 135])) (S' := MS I1 J1 (cc + c9) (ss + 6 * c9)) 3 rfl ?_
  refine ev_add (z := (i : Int) + 2) (hC _ _ rfl) (by omega) (by omega) (by omega) ?_
  show Ev X k_L_law (1173, [some (vr 1000000), some (vr 0), some (vr 135), some (vr 145), some (vi (i : Int)), some (vi (t9 : Int)), v6], [vi ((i : Int) + 2), vr 1000000, vi (X.2 (i + 1)), vr 135]) (MS I1 J1 (cc + c9) (ss + 6 * c9)) _
  refine ev_xsN (j := i + 2) (hC _ _ rfl) rfl (by omega) (by omega) rfl ?_
  show Ev X k_L_law (1174, [some (vr 1000000), some (vr 0), some (vr 135), some (vr 145), some (vi (i : Int)), some (vi (t9 : Int)), v6], [vi (X.2 (i + 2)), vi (X.2 (i + 1)), vr 135]) (MS I1 J1 (cc + c9) (ss + 6 * c9)) _
  refine ev_nL hC (fr' := (1178, [some (vr 1000000), some (vr 0), some (vr 135), some (vr 145), some (vi (i : Int)), some (vi (t9 : Int)), v6], [vi 3, vi (i : Int), vr 1000000, vi (X.2 (i + 2)), vi (X.2 (i + 1)), vr 135])) (S' := MS I1 J1 (cc + c9) (ss + 6 * c9)) 3 rfl ?_
  refine ev_add (z := (i : Int) + 3) (hC _ _ rfl) (by omega) (by omega) (by omega) ?_
  show Ev X k_L_law (1179, [some (vr 1000000), some (vr 0), some (vr 135), some (vr 145), some (vi (i : Int)), some (vi (t9 : Int)), v6], [vi ((i : Int) + 3), vr 1000000, vi (X.2 (i + 2)), vi (X.2 (i + 1)), vr 135]) (MS I1 J1 (cc + c9) (ss + 6 * c9)) _
  refine ev_xsN (j := i + 3) (hC _ _ rfl) rfl (by omega) (by omega) rfl ?_
  show Ev X k_L_law (1180, [some (vr 1000000), some (vr 0), some (vr 135), some (vr 145), some (vi (i : Int)), some (vi (t9 : Int)), v6], [vi (X.2 (i + 3)), vi (X.2 (i + 2)), vi (X.2 (i + 1)), vr 135]) (MS I1 J1 (cc + c9) (ss + 6 * c9)) _
  refine ev_nL hC (fr' := (1184, [some (vr 1000000), some (vr 0), some (vr 135), some (vr 145), some (vi (i : Int)), some (vi (t9 : Int)), v6], [vi 4, vi (i : Int), vr 1000000, vi (X.2 (i + 3)), vi (X.2 (i + 2)), vi (X.2 (i + 1)), vr 135])) (S' := MS I1 J1 (cc + c9) (ss + 6 * c9)) 3 rfl ?_
  refine ev_add (z := (i : Int) + 4) (hC _ _ rfl) (by omega) (by omega) (by omega) ?_
  show Ev X k_L_law (1185, [some (vr 1000000), some (vr 0), some (vr 135), some (vr 145), some (vi (i : Int)), some (vi (t9 : Int)), v6], [vi ((i : Int) + 4), vr 1000000, vi (X.2 (i + 3)), vi (X.2 (i + 2)), vi (X.2 (i + 1)), vr 135]) (MS I1 J1 (cc + c9) (ss + 6 * c9)) _
  refine ev_xsN (j := i + 4) (hC _ _ rfl) rfl (by omega) (by omega) rfl ?_
  show Ev X k_L_law (1186, [some (vr 1000000), some (vr 0), some (vr 135), some (vr 145), some (vi (i : Int)), some (vi (t9 : Int)), v6], [vi (X.2 (i + 4)), vi (X.2 (i + 3)), vi (X.2 (i + 2)), vi (X.2 (i + 1)), vr 135]) (MS I1 J1 (cc + c9) (ss + 6 * c9)) _
  refine ev_cz (hC _ _ rfl) rfl rfl ⟨Nat.le_of_ble_eq_true rfl, Nat.le_of_ble_eq_true rfl⟩ (hr) (fun z1 I2 J2 q2 => ?_)
  obtain ⟨h4, hz, hI⟩ := q2
  show Ev X k_L_law (1189, [some (vr 1000000), some (vr 0), some (vr 135), some (vr 145), some (vi (i : Int)), some (vi (t9 : Int)), v6], [vi z1]) (MS I2 J2 (cc + c9) (ss + 6 * c9)) _
  refine ev_nL hC (fr' := (1192, [some (vr 1000000), some (vr 0), some (vr 135), some (vr 145), some (vi (i : Int)), some (vi (t9 : Int)), some (vi z1)], [vr 135])) (S' := MS I2 J2 (cc + c9) (ss + 6 * c9)) 2 rfl ?_
  refine ev_cv (hC _ _ rfl) rfl rfl ⟨Nat.le_of_ble_eq_true rfl, Nat.le_of_ble_eq_true rfl⟩ (sp_thrown X _ _ _ _ h4) ?_
  show Ev X k_L_law (1195, [some (vr 1000000), some (vr 0), some (vr 135), some (vr 145), some (vi (i : Int)), some (vi (t9 : Int)), some (vi z1)], [vi (t9 : Int)]) (MS I2 J2 (cc + c9) (ss + 6 * c9)) _
  refine ev_nL hC (fr' := (1197, [some (vr 1000000), some (vr 0), some (vr 135), some (vr 145), some (vi (i : Int)), some (vi (t9 : Int)), some (vi z1)], [vi (t9 : Int), vi (t9 : Int)])) (S' := MS I2 J2 (cc + c9) (ss + 6 * c9)) 1 rfl ?_
  refine ev_ic (c := .eq) (off := 5) (hC _ _ rfl) (by decide) (fun (g1 : (t9 : Int) = (t9 : Int)) => ?_) (fun (g1 : ¬ ((t9 : Int) = (t9 : Int))) => False.elim (g1 rfl))
  show Ev X k_L_law (1202, [some (vr 1000000), some (vr 0), some (vr 135), some (vr 145), some (vi (i : Int)), some (vi (t9 : Int)), some (vi z1)], []) (MS I2 J2 (cc + c9) (ss + 6 * c9)) _
  refine ev_nL hC (fr' := (1204, [some (vr 1000000), some (vr 0), some (vr 135), some (vr 145), some (vi (i : Int)), some (vi (t9 : Int)), some (vi z1)], [vi (t9 : Int)])) (S' := MS I2 J2 (cc + c9) (ss + 6 * c9)) 1 rfl ?_
  refine ev_if (c := .ne) (off := 15) (hC _ _ rfl) (by decide) (fun (g2 : (t9 : Int) ≠ 0) => ?_) (fun (g2 : ¬ ((t9 : Int) ≠ 0)) => ?_)
  · show Ev X k_L_law (1219, [some (vr 1000000), some (vr 0), some (vr 135), some (vr 145), some (vi (i : Int)), some (vi (t9 : Int)), some (vi z1)], []) (MS I2 J2 (cc + c9) (ss + 6 * c9)) _
    refine ev_nL hC (fr' := (2672, [some (vr 1000000), some (vr 0), some (vr 135), some (vr 145), some (vi (i : Int)), some (vi (t9 : Int)), some (vi z1)], [])) (S' := MS I2 J2 (cc + c9) (ss + 6 * c9)) 1 rfl ?_
    exact K _ _ _ _ _ hc hI
  · show Ev X k_L_law (1207, [some (vr 1000000), some (vr 0), some (vr 135), some (vr 145), some (vi (i : Int)), some (vi (t9 : Int)), some (vi z1)], []) (MS I2 J2 (cc + c9) (ss + 6 * c9)) _
    refine ev_nL hC (fr' := (1209, [some (vr 1000000), some (vr 0), some (vr 135), some (vr 145), some (vi (i : Int)), some (vi (t9 : Int)), some (vi z1)], [vi 0, vr 145])) (S' := MS I2 J2 (cc + c9) (ss + 6 * c9)) 2 rfl ?_
    refine ev_laN (j := 0) (z := (J2 145 0)) (hC _ _ rfl) rfl (by omega) (by omega) (rfl) ?_
    show Ev X k_L_law (1210, [some (vr 1000000), some (vr 0), some (vr 135), some (vr 145), some (vi (i : Int)), some (vi (t9 : Int)), some (vi z1)], [vl (J2 145 0)]) (MS I2 J2 (cc + c9) (ss + 6 * c9)) _
    refine ev_nL hC (fr' := (1213, [some (vr 1000000), some (vr 0), some (vr 135), some (vr 145), some (vi (i : Int)), some (vi (t9 : Int)), some (vi z1)], [vl z1, vl (J2 145 0)])) (S' := MS I2 J2 (cc + c9) (ss + 6 * c9)) 2 rfl ?_
    refine ev_lc (c := .eq) (off := 5) (hC _ _ rfl) (hC _ _ rfl) (by decide) (fun (g3 : (J2 145 0) = z1) => ?_) (fun (g3 : ¬ ((J2 145 0) = z1)) => False.elim (g3 (hz (by omega)).1))
    show Ev X k_L_law (1219, [some (vr 1000000), some (vr 0), some (vr 135), some (vr 145), some (vi (i : Int)), some (vi (t9 : Int)), some (vi z1)], []) (MS I2 J2 (cc + c9) (ss + 6 * c9)) _
    refine ev_nL hC (fr' := (2672, [some (vr 1000000), some (vr 0), some (vr 135), some (vr 145), some (vi (i : Int)), some (vi (t9 : Int)), some (vi z1)], [])) (S' := MS I2 J2 (cc + c9) (ss + 6 * c9)) 1 rfl ?_
    exact K _ _ _ _ _ hc hI
set_option maxRecDepth 100000 in
noncomputable def cl_removeShape : List (Nat × AI) := [(1222, .aload_n 1, 1, (0, 0, 0)), (1223, .aload_n 0, 1, (0, 0, 0)), (1224, .iload 4, 2, (0, 0, 0)), (1226, .iconst 1, 1, (0, 0, 0)), (1227, .iadd, 1, (0, 0, 0)), (1228, .iaload, 1, (0, 0, 0)), (1229, .aload_n 0, 1, (0, 0, 0)), (1230, .iload 4, 2, (0, 0, 0)), (1232, .iconst 2, 1, (0, 0, 0)), (1233, .iadd, 1, (0, 0, 0)), (1234, .iaload, 1, (0, 0, 0)), (1235, .aload_n 3, 1, (0, 0, 0)), (1236, .invokestatic 187, 3, (10, 263, 4)), (1239, .istore 5, 2, (0, 0, 0)), (1241, .aload_n 2, 1, (0, 0, 0)), (1242, .aload_n 0, 1, (0, 0, 0)), (1243, .iload 4, 2, (0, 0, 0)), (1245, .iconst 1, 1, (0, 0, 0)), (1246, .iadd, 1, (0, 0, 0)), (1247, .iaload, 1, (0, 0, 0)), (1248, .aload_n 0, 1, (0, 0, 0)), (1249, .iload 4, 2, (0, 0, 0)), (1251, .iconst 2, 1, (0, 0, 0)), (1252, .iadd, 1, (0, 0, 0)), (1253, .iaload, 1, (0, 0, 0)), (1254, .invokevirtual 189, 3, (1, 121, 2)), (1257, .istore 6, 2, (0, 0, 0)), (1259, .aload_n 2, 1, (0, 0, 0)), (1260, .invokevirtual 133, 3, (1, 56, 0)), (1263, .iload 5, 2, (0, 0, 0)), (1265, .if_icmp .eq 5, 3, (0, 0, 0)), (1268, .iconst 0, 1, (0, 0, 0)), (1269, .ireturn, 1, (1, 0, 0)), (1270, .iload 5, 2, (0, 0, 0)), (1272, .ifCond .ne 15, 3, (0, 0, 0)), (1275, .aload_n 3, 1, (0, 0, 0)), (1276, .iconst 0, 1, (0, 0, 0)), (1277, .laload, 1, (0, 0, 0)), (1278, .iload 6, 2, (0, 0, 0)), (1280, .i2l, 1, (0, 0, 0)), (1281, .lcmp, 1, (0, 0, 0)), (1282, .ifCond .eq 5, 3, (0, 0, 0)), (1285, .iconst 0, 1, (0, 0, 0)), (1286, .ireturn, 1, (1, 0, 0)), (1287, .goto 1385, 3, (0, 0, 0))]
set_option maxRecDepth 100000 in
theorem ck_removeShape : lkS cl_removeShape k_L_law := lkS_of (by decide +kernel)
theorem lw_removeShape (X : AX) (I J : Nat → Nat → Int) (cc ss : Nat) {Q : (Option AV ⊕ Nat) → AS → Prop} (i : Nat) (hi : i + 6 ≤ X.1) (h72 : X.1 ≤ 3072) (v5 v6 : Option AV) (H : Two X k_L_removeShape k_X9_removeShape (0, [some (vr 0), some (vi (X.2 (i + 1))), some (vi (X.2 (i + 2))), some (vr 145), none], []) (0, [some (vr 135), some (vi (X.2 (i + 1))), some (vi (X.2 (i + 2))), none, none], []) (fun _ => True) I J cc ss) (K : ∀ I' J' c v5 v6, c ≤ 1 → INV I' J' → Ev X k_L_law (2672, [some (vr 1000000), some (vr 0), some (vr 135), some (vr 145), some (vi (i : Int)), v5, v6], []) (MS I' J' (cc + c) (ss + 6 * c)) Q) : Ev X k_L_law (1222, [some (vr 1000000), some (vr 0), some (vr 135), some (vr 145), some (vi (i : Int)), v5, v6], []) (MS I J cc ss) (Q) := by
  have hC := ck_removeShape
  refine ev_nL hC (fr' := (1227, [some (vr 1000000), some (vr 0), some (vr 135), some (vr 145), some (vi (i : Int)), v5, v6], [vi 1, vi (i : Int), vr 1000000, vr 0])) (S' := MS I J cc ss) 4 rfl ?_
  refine ev_add (z := (i : Int) + 1) (hC _ _ rfl) (by omega) (by omega) (by omega) ?_
  show Ev X k_L_law (1228, [some (vr 1000000), some (vr 0), some (vr 135), some (vr 145), some (vi (i : Int)), v5, v6], [vi ((i : Int) + 1), vr 1000000, vr 0]) (MS I J cc ss) _
  refine ev_xsN (j := i + 1) (hC _ _ rfl) rfl (by omega) (by omega) rfl ?_
  show Ev X k_L_law (1229, [some (vr 1000000), some (vr 0), some (vr 135), some (vr 145), some (vi (i : Int)), v5, v6], [vi (X.2 (i + 1)), vr 0]) (MS I J cc ss) _
  refine ev_nL hC (fr' := (1233, [some (vr 1000000), some (vr 0), some (vr 135), some (vr 145), some (vi (i : Int)), v5, v6], [vi 2, vi (i : Int), vr 1000000, vi (X.2 (i + 1)), vr 0])) (S' := MS I J cc ss) 3 rfl ?_
  refine ev_add (z := (i : Int) + 2) (hC _ _ rfl) (by omega) (by omega) (by omega) ?_
  show Ev X k_L_law (1234, [some (vr 1000000), some (vr 0), some (vr 135), some (vr 145), some (vi (i : Int)), v5, v6], [vi ((i : Int) + 2), vr 1000000, vi (X.2 (i + 1)), vr 0]) (MS I J cc ss) _
  refine ev_xsN (j := i + 2) (hC _ _ rfl) rfl (by omega) (by omega) rfl ?_
  show Ev X k_L_law (1235, [some (vr 1000000), some (vr 0), some (vr 135), some (vr 145), some (vi (i : Int)), v5, v6], [vi (X.2 (i + 2)), vi (X.2 (i + 1)), vr 0]) (MS I J cc ss) _
  refine ev_nL hC (fr' := (1236, [some (vr 1000000), some (vr 0), some (vr 135), some (vr 145), some (vi (i : Int)), v5, v6], [vr 145, vi (X.2 (i + 2)), vi (X.2 (i + 1)), vr 0])) (S' := MS I J cc ss) 1 rfl ?_
  refine ev_ct (hC _ _ rfl) rfl rfl ⟨Nat.le_of_ble_eq_true rfl, Nat.le_of_ble_eq_true rfl⟩ (H) (fun t9 c9 I1 J1 q1 => ?_)
  obtain ⟨hc, hr⟩ := q1
  show Ev X k_L_law (1239, [some (vr 1000000), some (vr 0), some (vr 135), some (vr 145), some (vi (i : Int)), v5, v6], [vi (t9 : Int)]) (MS I1 J1 (cc + c9) (ss + 6 * c9)) _
  refine ev_nL hC (fr' := (1246, [some (vr 1000000), some (vr 0), some (vr 135), some (vr 145), some (vi (i : Int)), some (vi (t9 : Int)), v6], [vi 1, vi (i : Int), vr 1000000, vr 135])) (S' := MS I1 J1 (cc + c9) (ss + 6 * c9)) 5 rfl ?_
  refine ev_add (z := (i : Int) + 1) (hC _ _ rfl) (by omega) (by omega) (by omega) ?_
  show Ev X k_L_law (1247, [some (vr 1000000), some (vr 0), some (vr 135), some (vr 145), some (vi (i : Int)), some (vi (t9 : Int)), v6], [vi ((i : Int) + 1), vr 1000000, vr 135]) (MS I1 J1 (cc + c9) (ss + 6 * c9)) _
  refine ev_xsN (j := i + 1) (hC _ _ rfl) rfl (by omega) (by omega) rfl ?_
  show Ev X k_L_law (1248, [some (vr 1000000), some (vr 0), some (vr 135), some (vr 145), some (vi (i : Int)), some (vi (t9 : Int)), v6], [vi (X.2 (i + 1)), vr 135]) (MS I1 J1 (cc + c9) (ss + 6 * c9)) _
  refine ev_nL hC (fr' := (1252, [some (vr 1000000), some (vr 0), some (vr 135), some (vr 145), some (vi (i : Int)), some (vi (t9 : Int)), v6], [vi 2, vi (i : Int), vr 1000000, vi (X.2 (i + 1)), vr 135])) (S' := MS I1 J1 (cc + c9) (ss + 6 * c9)) 3 rfl ?_
  refine ev_add (z := (i : Int) + 2) (hC _ _ rfl) (by omega) (by omega) (by omega) ?_
  show Ev X k_L_law (1253, [some (vr 1000000), some (vr 0), some (vr 135), some (vr 145), some (vi (i : Int)), some (vi (t9 : Int)), v6], [vi ((i : Int) + 2), vr 1000000, vi (X.2 (i + 1)), vr 135]) (MS I1 J1 (cc + c9) (ss + 6 * c9)) _
  refine ev_xsN (j := i + 2) (hC _ _ rfl) rfl (by omega) (by omega) rfl ?_
  show Ev X k_L_law (1254, [some (vr 1000000), some (vr 0), some (vr 135), some (vr 145), some (vi (i : Int)), some (vi (t9 : Int)), v6], [vi (X.2 (i + 2)), vi (X.2 (i + 1)), vr 135]) (MS I1 J1 (cc + c9) (ss + 6 * c9)) _
  refine ev_cz (hC _ _ rfl) rfl rfl ⟨Nat.le_of_ble_eq_true rfl, Nat.le_of_ble_eq_true rfl⟩ (hr) (fun z1 I2 J2 q2 => ?_)
  obtain ⟨h4, hz, hI⟩ := q2
  show Ev X k_L_law (1257, [some (vr 1000000), some (vr 0), some (vr 135), some (vr 145), some (vi (i : Int)), some (vi (t9 : Int)), v6], [vi z1]) (MS I2 J2 (cc + c9) (ss + 6 * c9)) _
  refine ev_nL hC (fr' := (1260, [some (vr 1000000), some (vr 0), some (vr 135), some (vr 145), some (vi (i : Int)), some (vi (t9 : Int)), some (vi z1)], [vr 135])) (S' := MS I2 J2 (cc + c9) (ss + 6 * c9)) 2 rfl ?_
  refine ev_cv (hC _ _ rfl) rfl rfl ⟨Nat.le_of_ble_eq_true rfl, Nat.le_of_ble_eq_true rfl⟩ (sp_thrown X _ _ _ _ h4) ?_
  show Ev X k_L_law (1263, [some (vr 1000000), some (vr 0), some (vr 135), some (vr 145), some (vi (i : Int)), some (vi (t9 : Int)), some (vi z1)], [vi (t9 : Int)]) (MS I2 J2 (cc + c9) (ss + 6 * c9)) _
  refine ev_nL hC (fr' := (1265, [some (vr 1000000), some (vr 0), some (vr 135), some (vr 145), some (vi (i : Int)), some (vi (t9 : Int)), some (vi z1)], [vi (t9 : Int), vi (t9 : Int)])) (S' := MS I2 J2 (cc + c9) (ss + 6 * c9)) 1 rfl ?_
  refine ev_ic (c := .eq) (off := 5) (hC _ _ rfl) (by decide) (fun (g1 : (t9 : Int) = (t9 : Int)) => ?_) (fun (g1 : ¬ ((t9 : Int) = (t9 : Int))) => False.elim (g1 rfl))
  show Ev X k_L_law (1270, [some (vr 1000000), some (vr 0), some (vr 135), some (vr 145), some (vi (i : Int)), some (vi (t9 : Int)), some (vi z1)], []) (MS I2 J2 (cc + c9) (ss + 6 * c9)) _
  refine ev_nL hC (fr' := (1272, [some (vr 1000000), some (vr 0), some (vr 135), some (vr 145), some (vi (i : Int)), some (vi (t9 : Int)), some (vi z1)], [vi (t9 : Int)])) (S' := MS I2 J2 (cc + c9) (ss + 6 * c9)) 1 rfl ?_
  refine ev_if (c := .ne) (off := 15) (hC _ _ rfl) (by decide) (fun (g2 : (t9 : Int) ≠ 0) => ?_) (fun (g2 : ¬ ((t9 : Int) ≠ 0)) => ?_)
  · show Ev X k_L_law (1287, [some (vr 1000000), some (vr 0), some (vr 135), some (vr 145), some (vi (i : Int)), some (vi (t9 : Int)), some (vi z1)], []) (MS I2 J2 (cc + c9) (ss + 6 * c9)) _
    refine ev_nL hC (fr' := (2672, [some (vr 1000000), some (vr 0), some (vr 135), some (vr 145), some (vi (i : Int)), some (vi (t9 : Int)), some (vi z1)], [])) (S' := MS I2 J2 (cc + c9) (ss + 6 * c9)) 1 rfl ?_
    exact K _ _ _ _ _ hc hI
  · show Ev X k_L_law (1275, [some (vr 1000000), some (vr 0), some (vr 135), some (vr 145), some (vi (i : Int)), some (vi (t9 : Int)), some (vi z1)], []) (MS I2 J2 (cc + c9) (ss + 6 * c9)) _
    refine ev_nL hC (fr' := (1277, [some (vr 1000000), some (vr 0), some (vr 135), some (vr 145), some (vi (i : Int)), some (vi (t9 : Int)), some (vi z1)], [vi 0, vr 145])) (S' := MS I2 J2 (cc + c9) (ss + 6 * c9)) 2 rfl ?_
    refine ev_laN (j := 0) (z := (J2 145 0)) (hC _ _ rfl) rfl (by omega) (by omega) (rfl) ?_
    show Ev X k_L_law (1278, [some (vr 1000000), some (vr 0), some (vr 135), some (vr 145), some (vi (i : Int)), some (vi (t9 : Int)), some (vi z1)], [vl (J2 145 0)]) (MS I2 J2 (cc + c9) (ss + 6 * c9)) _
    refine ev_nL hC (fr' := (1281, [some (vr 1000000), some (vr 0), some (vr 135), some (vr 145), some (vi (i : Int)), some (vi (t9 : Int)), some (vi z1)], [vl z1, vl (J2 145 0)])) (S' := MS I2 J2 (cc + c9) (ss + 6 * c9)) 2 rfl ?_
    refine ev_lc (c := .eq) (off := 5) (hC _ _ rfl) (hC _ _ rfl) (by decide) (fun (g3 : (J2 145 0) = z1) => ?_) (fun (g3 : ¬ ((J2 145 0) = z1)) => False.elim (g3 (hz (by omega)).1))
    show Ev X k_L_law (1287, [some (vr 1000000), some (vr 0), some (vr 135), some (vr 145), some (vi (i : Int)), some (vi (t9 : Int)), some (vi z1)], []) (MS I2 J2 (cc + c9) (ss + 6 * c9)) _
    refine ev_nL hC (fr' := (2672, [some (vr 1000000), some (vr 0), some (vr 135), some (vr 145), some (vi (i : Int)), some (vi (t9 : Int)), some (vi z1)], [])) (S' := MS I2 J2 (cc + c9) (ss + 6 * c9)) 1 rfl ?_
    exact K _ _ _ _ _ hc hI
set_option maxRecDepth 100000 in
noncomputable def cl_uses : List (Nat × AI) := [(1347, .aload_n 1, 1, (0, 0, 0)), (1348, .aload_n 0, 1, (0, 0, 0)), (1349, .iload 4, 2, (0, 0, 0)), (1351, .iconst 1, 1, (0, 0, 0)), (1352, .iadd, 1, (0, 0, 0)), (1353, .iaload, 1, (0, 0, 0)), (1354, .aload_n 3, 1, (0, 0, 0)), (1355, .invokestatic 194, 3, (10, 264, 3)), (1358, .istore 5, 2, (0, 0, 0)), (1360, .aload_n 2, 1, (0, 0, 0)), (1361, .aload_n 0, 1, (0, 0, 0)), (1362, .iload 4, 2, (0, 0, 0)), (1364, .iconst 1, 1, (0, 0, 0)), (1365, .iadd, 1, (0, 0, 0)), (1366, .iaload, 1, (0, 0, 0)), (1367, .invokevirtual 196, 3, (1, 123, 1)), (1370, .istore 6, 2, (0, 0, 0)), (1372, .aload_n 2, 1, (0, 0, 0)), (1373, .invokevirtual 133, 3, (1, 56, 0)), (1376, .iload 5, 2, (0, 0, 0)), (1378, .if_icmp .eq 5, 3, (0, 0, 0)), (1381, .iconst 0, 1, (0, 0, 0)), (1382, .ireturn, 1, (1, 0, 0)), (1383, .iload 5, 2, (0, 0, 0)), (1385, .ifCond .ne 15, 3, (0, 0, 0)), (1388, .aload_n 3, 1, (0, 0, 0)), (1389, .iconst 0, 1, (0, 0, 0)), (1390, .laload, 1, (0, 0, 0)), (1391, .iload 6, 2, (0, 0, 0)), (1393, .i2l, 1, (0, 0, 0)), (1394, .lcmp, 1, (0, 0, 0)), (1395, .ifCond .eq 5, 3, (0, 0, 0)), (1398, .iconst 0, 1, (0, 0, 0)), (1399, .ireturn, 1, (1, 0, 0)), (1400, .goto 1272, 3, (0, 0, 0))]
set_option maxRecDepth 100000 in
theorem ck_uses : lkS cl_uses k_L_law := lkS_of (by decide +kernel)
theorem lw_uses (X : AX) (I J : Nat → Nat → Int) (cc ss : Nat) {Q : (Option AV ⊕ Nat) → AS → Prop} (i : Nat) (hi : i + 6 ≤ X.1) (h72 : X.1 ≤ 3072) (v5 v6 : Option AV) (H : Two X k_L_uses k_X9_uses (0, [some (vr 0), some (vi (X.2 (i + 1))), some (vr 145), none], []) (0, [some (vr 135), some (vi (X.2 (i + 1)))], []) (fun _ => True) I J cc ss) (K : ∀ I' J' c v5 v6, c ≤ 1 → INV I' J' → Ev X k_L_law (2672, [some (vr 1000000), some (vr 0), some (vr 135), some (vr 145), some (vi (i : Int)), v5, v6], []) (MS I' J' (cc + c) (ss + 6 * c)) Q) : Ev X k_L_law (1347, [some (vr 1000000), some (vr 0), some (vr 135), some (vr 145), some (vi (i : Int)), v5, v6], []) (MS I J cc ss) (Q) := by
  have hC := ck_uses
  refine ev_nL hC (fr' := (1352, [some (vr 1000000), some (vr 0), some (vr 135), some (vr 145), some (vi (i : Int)), v5, v6], [vi 1, vi (i : Int), vr 1000000, vr 0])) (S' := MS I J cc ss) 4 rfl ?_
  refine ev_add (z := (i : Int) + 1) (hC _ _ rfl) (by omega) (by omega) (by omega) ?_
  show Ev X k_L_law (1353, [some (vr 1000000), some (vr 0), some (vr 135), some (vr 145), some (vi (i : Int)), v5, v6], [vi ((i : Int) + 1), vr 1000000, vr 0]) (MS I J cc ss) _
  refine ev_xsN (j := i + 1) (hC _ _ rfl) rfl (by omega) (by omega) rfl ?_
  show Ev X k_L_law (1354, [some (vr 1000000), some (vr 0), some (vr 135), some (vr 145), some (vi (i : Int)), v5, v6], [vi (X.2 (i + 1)), vr 0]) (MS I J cc ss) _
  refine ev_nL hC (fr' := (1355, [some (vr 1000000), some (vr 0), some (vr 135), some (vr 145), some (vi (i : Int)), v5, v6], [vr 145, vi (X.2 (i + 1)), vr 0])) (S' := MS I J cc ss) 1 rfl ?_
  refine ev_ct (hC _ _ rfl) rfl rfl ⟨Nat.le_of_ble_eq_true rfl, Nat.le_of_ble_eq_true rfl⟩ (H) (fun t9 c9 I1 J1 q1 => ?_)
  obtain ⟨hc, hr⟩ := q1
  show Ev X k_L_law (1358, [some (vr 1000000), some (vr 0), some (vr 135), some (vr 145), some (vi (i : Int)), v5, v6], [vi (t9 : Int)]) (MS I1 J1 (cc + c9) (ss + 6 * c9)) _
  refine ev_nL hC (fr' := (1365, [some (vr 1000000), some (vr 0), some (vr 135), some (vr 145), some (vi (i : Int)), some (vi (t9 : Int)), v6], [vi 1, vi (i : Int), vr 1000000, vr 135])) (S' := MS I1 J1 (cc + c9) (ss + 6 * c9)) 5 rfl ?_
  refine ev_add (z := (i : Int) + 1) (hC _ _ rfl) (by omega) (by omega) (by omega) ?_
  show Ev X k_L_law (1366, [some (vr 1000000), some (vr 0), some (vr 135), some (vr 145), some (vi (i : Int)), some (vi (t9 : Int)), v6], [vi ((i : Int) + 1), vr 1000000, vr 135]) (MS I1 J1 (cc + c9) (ss + 6 * c9)) _
  refine ev_xsN (j := i + 1) (hC _ _ rfl) rfl (by omega) (by omega) rfl ?_
  show Ev X k_L_law (1367, [some (vr 1000000), some (vr 0), some (vr 135), some (vr 145), some (vi (i : Int)), some (vi (t9 : Int)), v6], [vi (X.2 (i + 1)), vr 135]) (MS I1 J1 (cc + c9) (ss + 6 * c9)) _
  refine ev_cz (hC _ _ rfl) rfl rfl ⟨Nat.le_of_ble_eq_true rfl, Nat.le_of_ble_eq_true rfl⟩ (hr) (fun z1 I2 J2 q2 => ?_)
  obtain ⟨h4, hz, hI⟩ := q2
  show Ev X k_L_law (1370, [some (vr 1000000), some (vr 0), some (vr 135), some (vr 145), some (vi (i : Int)), some (vi (t9 : Int)), v6], [vi z1]) (MS I2 J2 (cc + c9) (ss + 6 * c9)) _
  refine ev_nL hC (fr' := (1373, [some (vr 1000000), some (vr 0), some (vr 135), some (vr 145), some (vi (i : Int)), some (vi (t9 : Int)), some (vi z1)], [vr 135])) (S' := MS I2 J2 (cc + c9) (ss + 6 * c9)) 2 rfl ?_
  refine ev_cv (hC _ _ rfl) rfl rfl ⟨Nat.le_of_ble_eq_true rfl, Nat.le_of_ble_eq_true rfl⟩ (sp_thrown X _ _ _ _ h4) ?_
  show Ev X k_L_law (1376, [some (vr 1000000), some (vr 0), some (vr 135), some (vr 145), some (vi (i : Int)), some (vi (t9 : Int)), some (vi z1)], [vi (t9 : Int)]) (MS I2 J2 (cc + c9) (ss + 6 * c9)) _
  refine ev_nL hC (fr' := (1378, [some (vr 1000000), some (vr 0), some (vr 135), some (vr 145), some (vi (i : Int)), some (vi (t9 : Int)), some (vi z1)], [vi (t9 : Int), vi (t9 : Int)])) (S' := MS I2 J2 (cc + c9) (ss + 6 * c9)) 1 rfl ?_
  refine ev_ic (c := .eq) (off := 5) (hC _ _ rfl) (by decide) (fun (g1 : (t9 : Int) = (t9 : Int)) => ?_) (fun (g1 : ¬ ((t9 : Int) = (t9 : Int))) => False.elim (g1 rfl))
  show Ev X k_L_law (1383, [some (vr 1000000), some (vr 0), some (vr 135), some (vr 145), some (vi (i : Int)), some (vi (t9 : Int)), some (vi z1)], []) (MS I2 J2 (cc + c9) (ss + 6 * c9)) _
  refine ev_nL hC (fr' := (1385, [some (vr 1000000), some (vr 0), some (vr 135), some (vr 145), some (vi (i : Int)), some (vi (t9 : Int)), some (vi z1)], [vi (t9 : Int)])) (S' := MS I2 J2 (cc + c9) (ss + 6 * c9)) 1 rfl ?_
  refine ev_if (c := .ne) (off := 15) (hC _ _ rfl) (by decide) (fun (g2 : (t9 : Int) ≠ 0) => ?_) (fun (g2 : ¬ ((t9 : Int) ≠ 0)) => ?_)
  · show Ev X k_L_law (1400, [some (vr 1000000), some (vr 0), some (vr 135), some (vr 145), some (vi (i : Int)), some (vi (t9 : Int)), some (vi z1)], []) (MS I2 J2 (cc + c9) (ss + 6 * c9)) _
    refine ev_nL hC (fr' := (2672, [some (vr 1000000), some (vr 0), some (vr 135), some (vr 145), some (vi (i : Int)), some (vi (t9 : Int)), some (vi z1)], [])) (S' := MS I2 J2 (cc + c9) (ss + 6 * c9)) 1 rfl ?_
    exact K _ _ _ _ _ hc hI
  · show Ev X k_L_law (1388, [some (vr 1000000), some (vr 0), some (vr 135), some (vr 145), some (vi (i : Int)), some (vi (t9 : Int)), some (vi z1)], []) (MS I2 J2 (cc + c9) (ss + 6 * c9)) _
    refine ev_nL hC (fr' := (1390, [some (vr 1000000), some (vr 0), some (vr 135), some (vr 145), some (vi (i : Int)), some (vi (t9 : Int)), some (vi z1)], [vi 0, vr 145])) (S' := MS I2 J2 (cc + c9) (ss + 6 * c9)) 2 rfl ?_
    refine ev_laN (j := 0) (z := (J2 145 0)) (hC _ _ rfl) rfl (by omega) (by omega) (rfl) ?_
    show Ev X k_L_law (1391, [some (vr 1000000), some (vr 0), some (vr 135), some (vr 145), some (vi (i : Int)), some (vi (t9 : Int)), some (vi z1)], [vl (J2 145 0)]) (MS I2 J2 (cc + c9) (ss + 6 * c9)) _
    refine ev_nL hC (fr' := (1394, [some (vr 1000000), some (vr 0), some (vr 135), some (vr 145), some (vi (i : Int)), some (vi (t9 : Int)), some (vi z1)], [vl z1, vl (J2 145 0)])) (S' := MS I2 J2 (cc + c9) (ss + 6 * c9)) 2 rfl ?_
    refine ev_lc (c := .eq) (off := 5) (hC _ _ rfl) (hC _ _ rfl) (by decide) (fun (g3 : (J2 145 0) = z1) => ?_) (fun (g3 : ¬ ((J2 145 0) = z1)) => False.elim (g3 (hz (by omega)).1))
    show Ev X k_L_law (1400, [some (vr 1000000), some (vr 0), some (vr 135), some (vr 145), some (vi (i : Int)), some (vi (t9 : Int)), some (vi z1)], []) (MS I2 J2 (cc + c9) (ss + 6 * c9)) _
    refine ev_nL hC (fr' := (2672, [some (vr 1000000), some (vr 0), some (vr 135), some (vr 145), some (vi (i : Int)), some (vi (t9 : Int)), some (vi z1)], [])) (S' := MS I2 J2 (cc + c9) (ss + 6 * c9)) 1 rfl ?_
    exact K _ _ _ _ _ hc hI
set_option maxRecDepth 100000 in
noncomputable def cl_use : List (Nat × AI) := [(1403, .aload_n 1, 1, (0, 0, 0)), (1404, .aload_n 0, 1, (0, 0, 0)), (1405, .iload 4, 2, (0, 0, 0)), (1407, .iconst 1, 1, (0, 0, 0)), (1408, .iadd, 1, (0, 0, 0)), (1409, .iaload, 1, (0, 0, 0)), (1410, .aload_n 0, 1, (0, 0, 0)), (1411, .iload 4, 2, (0, 0, 0)), (1413, .iconst 2, 1, (0, 0, 0)), (1414, .iadd, 1, (0, 0, 0)), (1415, .iaload, 1, (0, 0, 0)), (1416, .aload_n 0, 1, (0, 0, 0)), (1417, .iload 4, 2, (0, 0, 0)), (1419, .iconst 3, 1, (0, 0, 0)), (1420, .iadd, 1, (0, 0, 0)), (1421, .iaload, 1, (0, 0, 0)), (1422, .aload_n 3, 1, (0, 0, 0)), (1423, .invokestatic 197, 3, (10, 265, 5)), (1426, .istore 5, 2, (0, 0, 0)), (1428, .aload_n 2, 1, (0, 0, 0)), (1429, .aload_n 0, 1, (0, 0, 0)), (1430, .iload 4, 2, (0, 0, 0)), (1432, .iconst 1, 1, (0, 0, 0)), (1433, .iadd, 1, (0, 0, 0)), (1434, .iaload, 1, (0, 0, 0)), (1435, .aload_n 0, 1, (0, 0, 0)), (1436, .iload 4, 2, (0, 0, 0)), (1438, .iconst 2, 1, (0, 0, 0)), (1439, .iadd, 1, (0, 0, 0)), (1440, .iaload, 1, (0, 0, 0)), (1441, .aload_n 0, 1, (0, 0, 0)), (1442, .iload 4, 2, (0, 0, 0)), (1444, .iconst 3, 1, (0, 0, 0)), (1445, .iadd, 1, (0, 0, 0)), (1446, .iaload, 1, (0, 0, 0)), (1447, .invokevirtual 199, 3, (1, 125, 3)), (1450, .istore 6, 2, (0, 0, 0)), (1452, .aload_n 2, 1, (0, 0, 0)), (1453, .invokevirtual 133, 3, (1, 56, 0)), (1456, .iload 5, 2, (0, 0, 0)), (1458, .if_icmp .eq 5, 3, (0, 0, 0)), (1461, .iconst 0, 1, (0, 0, 0)), (1462, .ireturn, 1, (1, 0, 0)), (1463, .iload 5, 2, (0, 0, 0)), (1465, .ifCond .ne 15, 3, (0, 0, 0)), (1468, .aload_n 3, 1, (0, 0, 0)), (1469, .iconst 0, 1, (0, 0, 0)), (1470, .laload, 1, (0, 0, 0)), (1471, .iload 6, 2, (0, 0, 0)), (1473, .i2l, 1, (0, 0, 0)), (1474, .lcmp, 1, (0, 0, 0)), (1475, .ifCond .eq 5, 3, (0, 0, 0)), (1478, .iconst 0, 1, (0, 0, 0)), (1479, .ireturn, 1, (1, 0, 0)), (1480, .goto 1192, 3, (0, 0, 0))]
set_option maxRecDepth 100000 in
theorem ck_use : lkS cl_use k_L_law := lkS_of (by decide +kernel)
theorem lw_use (X : AX) (I J : Nat → Nat → Int) (cc ss : Nat) {Q : (Option AV ⊕ Nat) → AS → Prop} (i : Nat) (hi : i + 6 ≤ X.1) (h72 : X.1 ≤ 3072) (v5 v6 : Option AV) (H : Two X k_L_use k_X9_use (0, [some (vr 0), some (vi (X.2 (i + 1))), some (vi (X.2 (i + 2))), some (vi (X.2 (i + 3))), some (vr 145), none], []) (0, [some (vr 135), some (vi (X.2 (i + 1))), some (vi (X.2 (i + 2))), some (vi (X.2 (i + 3)))], []) (fun _ => True) I J cc ss) (K : ∀ I' J' c v5 v6, c ≤ 1 → INV I' J' → Ev X k_L_law (2672, [some (vr 1000000), some (vr 0), some (vr 135), some (vr 145), some (vi (i : Int)), v5, v6], []) (MS I' J' (cc + c) (ss + 6 * c)) Q) : Ev X k_L_law (1403, [some (vr 1000000), some (vr 0), some (vr 135), some (vr 145), some (vi (i : Int)), v5, v6], []) (MS I J cc ss) (Q) := by
  have hC := ck_use
  refine ev_nL hC (fr' := (1408, [some (vr 1000000), some (vr 0), some (vr 135), some (vr 145), some (vi (i : Int)), v5, v6], [vi 1, vi (i : Int), vr 1000000, vr 0])) (S' := MS I J cc ss) 4 rfl ?_
  refine ev_add (z := (i : Int) + 1) (hC _ _ rfl) (by omega) (by omega) (by omega) ?_
  show Ev X k_L_law (1409, [some (vr 1000000), some (vr 0), some (vr 135), some (vr 145), some (vi (i : Int)), v5, v6], [vi ((i : Int) + 1), vr 1000000, vr 0]) (MS I J cc ss) _
  refine ev_xsN (j := i + 1) (hC _ _ rfl) rfl (by omega) (by omega) rfl ?_
  show Ev X k_L_law (1410, [some (vr 1000000), some (vr 0), some (vr 135), some (vr 145), some (vi (i : Int)), v5, v6], [vi (X.2 (i + 1)), vr 0]) (MS I J cc ss) _
  refine ev_nL hC (fr' := (1414, [some (vr 1000000), some (vr 0), some (vr 135), some (vr 145), some (vi (i : Int)), v5, v6], [vi 2, vi (i : Int), vr 1000000, vi (X.2 (i + 1)), vr 0])) (S' := MS I J cc ss) 3 rfl ?_
  refine ev_add (z := (i : Int) + 2) (hC _ _ rfl) (by omega) (by omega) (by omega) ?_
  show Ev X k_L_law (1415, [some (vr 1000000), some (vr 0), some (vr 135), some (vr 145), some (vi (i : Int)), v5, v6], [vi ((i : Int) + 2), vr 1000000, vi (X.2 (i + 1)), vr 0]) (MS I J cc ss) _
  refine ev_xsN (j := i + 2) (hC _ _ rfl) rfl (by omega) (by omega) rfl ?_
  show Ev X k_L_law (1416, [some (vr 1000000), some (vr 0), some (vr 135), some (vr 145), some (vi (i : Int)), v5, v6], [vi (X.2 (i + 2)), vi (X.2 (i + 1)), vr 0]) (MS I J cc ss) _
  refine ev_nL hC (fr' := (1420, [some (vr 1000000), some (vr 0), some (vr 135), some (vr 145), some (vi (i : Int)), v5, v6], [vi 3, vi (i : Int), vr 1000000, vi (X.2 (i + 2)), vi (X.2 (i + 1)), vr 0])) (S' := MS I J cc ss) 3 rfl ?_
  refine ev_add (z := (i : Int) + 3) (hC _ _ rfl) (by omega) (by omega) (by omega) ?_
  show Ev X k_L_law (1421, [some (vr 1000000), some (vr 0), some (vr 135), some (vr 145), some (vi (i : Int)), v5, v6], [vi ((i : Int) + 3), vr 1000000, vi (X.2 (i + 2)), vi (X.2 (i + 1)), vr 0]) (MS I J cc ss) _
  refine ev_xsN (j := i + 3) (hC _ _ rfl) rfl (by omega) (by omega) rfl ?_
  show Ev X k_L_law (1422, [some (vr 1000000), some (vr 0), some (vr 135), some (vr 145), some (vi (i : Int)), v5, v6], [vi (X.2 (i + 3)), vi (X.2 (i + 2)), vi (X.2 (i + 1)), vr 0]) (MS I J cc ss) _
  refine ev_nL hC (fr' := (1423, [some (vr 1000000), some (vr 0), some (vr 135), some (vr 145), some (vi (i : Int)), v5, v6], [vr 145, vi (X.2 (i + 3)), vi (X.2 (i + 2)), vi (X.2 (i + 1)), vr 0])) (S' := MS I J cc ss) 1 rfl ?_
  refine ev_ct (hC _ _ rfl) rfl rfl ⟨Nat.le_of_ble_eq_true rfl, Nat.le_of_ble_eq_true rfl⟩ (H) (fun t9 c9 I1 J1 q1 => ?_)
  obtain ⟨hc, hr⟩ := q1
  show Ev X k_L_law (1426, [some (vr 1000000), some (vr 0), some (vr 135), some (vr 145), some (vi (i : Int)), v5, v6], [vi (t9 : Int)]) (MS I1 J1 (cc + c9) (ss + 6 * c9)) _
  refine ev_nL hC (fr' := (1433, [some (vr 1000000), some (vr 0), some (vr 135), some (vr 145), some (vi (i : Int)), some (vi (t9 : Int)), v6], [vi 1, vi (i : Int), vr 1000000, vr 135])) (S' := MS I1 J1 (cc + c9) (ss + 6 * c9)) 5 rfl ?_
  refine ev_add (z := (i : Int) + 1) (hC _ _ rfl) (by omega) (by omega) (by omega) ?_
  show Ev X k_L_law (1434, [some (vr 1000000), some (vr 0), some (vr 135), some (vr 145), some (vi (i : Int)), some (vi (t9 : Int)), v6], [vi ((i : Int) + 1), vr 1000000, vr 135]) (MS I1 J1 (cc + c9) (ss + 6 * c9)) _
  refine ev_xsN (j := i + 1) (hC _ _ rfl) rfl (by omega) (by omega) rfl ?_
  show Ev X k_L_law (1435, [some (vr 1000000), some (vr 0), some (vr 135), some (vr 145), some (vi (i : Int)), some (vi (t9 : Int)), v6], [vi (X.2 (i + 1)), vr 135]) (MS I1 J1 (cc + c9) (ss + 6 * c9)) _
  refine ev_nL hC (fr' := (1439, [some (vr 1000000), some (vr 0), some (vr 135), some (vr 145), some (vi (i : Int)), some (vi (t9 : Int)), v6], [vi 2, vi (i : Int), vr 1000000, vi (X.2 (i + 1)), vr 135])) (S' := MS I1 J1 (cc + c9) (ss + 6 * c9)) 3 rfl ?_
  refine ev_add (z := (i : Int) + 2) (hC _ _ rfl) (by omega) (by omega) (by omega) ?_
  show Ev X k_L_law (1440, [some (vr 1000000), some (vr 0), some (vr 135), some (vr 145), some (vi (i : Int)), some (vi (t9 : Int)), v6], [vi ((i : Int) + 2), vr 1000000, vi (X.2 (i + 1)), vr 135]) (MS I1 J1 (cc + c9) (ss + 6 * c9)) _
  refine ev_xsN (j := i + 2) (hC _ _ rfl) rfl (by omega) (by omega) rfl ?_
  show Ev X k_L_law (1441, [some (vr 1000000), some (vr 0), some (vr 135), some (vr 145), some (vi (i : Int)), some (vi (t9 : Int)), v6], [vi (X.2 (i + 2)), vi (X.2 (i + 1)), vr 135]) (MS I1 J1 (cc + c9) (ss + 6 * c9)) _
  refine ev_nL hC (fr' := (1445, [some (vr 1000000), some (vr 0), some (vr 135), some (vr 145), some (vi (i : Int)), some (vi (t9 : Int)), v6], [vi 3, vi (i : Int), vr 1000000, vi (X.2 (i + 2)), vi (X.2 (i + 1)), vr 135])) (S' := MS I1 J1 (cc + c9) (ss + 6 * c9)) 3 rfl ?_
  refine ev_add (z := (i : Int) + 3) (hC _ _ rfl) (by omega) (by omega) (by omega) ?_
  show Ev X k_L_law (1446, [some (vr 1000000), some (vr 0), some (vr 135), some (vr 145), some (vi (i : Int)), some (vi (t9 : Int)), v6], [vi ((i : Int) + 3), vr 1000000, vi (X.2 (i + 2)), vi (X.2 (i + 1)), vr 135]) (MS I1 J1 (cc + c9) (ss + 6 * c9)) _
  refine ev_xsN (j := i + 3) (hC _ _ rfl) rfl (by omega) (by omega) rfl ?_
  show Ev X k_L_law (1447, [some (vr 1000000), some (vr 0), some (vr 135), some (vr 145), some (vi (i : Int)), some (vi (t9 : Int)), v6], [vi (X.2 (i + 3)), vi (X.2 (i + 2)), vi (X.2 (i + 1)), vr 135]) (MS I1 J1 (cc + c9) (ss + 6 * c9)) _
  refine ev_cz (hC _ _ rfl) rfl rfl ⟨Nat.le_of_ble_eq_true rfl, Nat.le_of_ble_eq_true rfl⟩ (hr) (fun z1 I2 J2 q2 => ?_)
  obtain ⟨h4, hz, hI⟩ := q2
  show Ev X k_L_law (1450, [some (vr 1000000), some (vr 0), some (vr 135), some (vr 145), some (vi (i : Int)), some (vi (t9 : Int)), v6], [vi z1]) (MS I2 J2 (cc + c9) (ss + 6 * c9)) _
  refine ev_nL hC (fr' := (1453, [some (vr 1000000), some (vr 0), some (vr 135), some (vr 145), some (vi (i : Int)), some (vi (t9 : Int)), some (vi z1)], [vr 135])) (S' := MS I2 J2 (cc + c9) (ss + 6 * c9)) 2 rfl ?_
  refine ev_cv (hC _ _ rfl) rfl rfl ⟨Nat.le_of_ble_eq_true rfl, Nat.le_of_ble_eq_true rfl⟩ (sp_thrown X _ _ _ _ h4) ?_
  show Ev X k_L_law (1456, [some (vr 1000000), some (vr 0), some (vr 135), some (vr 145), some (vi (i : Int)), some (vi (t9 : Int)), some (vi z1)], [vi (t9 : Int)]) (MS I2 J2 (cc + c9) (ss + 6 * c9)) _
  refine ev_nL hC (fr' := (1458, [some (vr 1000000), some (vr 0), some (vr 135), some (vr 145), some (vi (i : Int)), some (vi (t9 : Int)), some (vi z1)], [vi (t9 : Int), vi (t9 : Int)])) (S' := MS I2 J2 (cc + c9) (ss + 6 * c9)) 1 rfl ?_
  refine ev_ic (c := .eq) (off := 5) (hC _ _ rfl) (by decide) (fun (g1 : (t9 : Int) = (t9 : Int)) => ?_) (fun (g1 : ¬ ((t9 : Int) = (t9 : Int))) => False.elim (g1 rfl))
  show Ev X k_L_law (1463, [some (vr 1000000), some (vr 0), some (vr 135), some (vr 145), some (vi (i : Int)), some (vi (t9 : Int)), some (vi z1)], []) (MS I2 J2 (cc + c9) (ss + 6 * c9)) _
  refine ev_nL hC (fr' := (1465, [some (vr 1000000), some (vr 0), some (vr 135), some (vr 145), some (vi (i : Int)), some (vi (t9 : Int)), some (vi z1)], [vi (t9 : Int)])) (S' := MS I2 J2 (cc + c9) (ss + 6 * c9)) 1 rfl ?_
  refine ev_if (c := .ne) (off := 15) (hC _ _ rfl) (by decide) (fun (g2 : (t9 : Int) ≠ 0) => ?_) (fun (g2 : ¬ ((t9 : Int) ≠ 0)) => ?_)
  · show Ev X k_L_law (1480, [some (vr 1000000), some (vr 0), some (vr 135), some (vr 145), some (vi (i : Int)), some (vi (t9 : Int)), some (vi z1)], []) (MS I2 J2 (cc + c9) (ss + 6 * c9)) _
    refine ev_nL hC (fr' := (2672, [some (vr 1000000), some (vr 0), some (vr 135), some (vr 145), some (vi (i : Int)), some (vi (t9 : Int)), some (vi z1)], [])) (S' := MS I2 J2 (cc + c9) (ss + 6 * c9)) 1 rfl ?_
    exact K _ _ _ _ _ hc hI
  · show Ev X k_L_law (1468, [some (vr 1000000), some (vr 0), some (vr 135), some (vr 145), some (vi (i : Int)), some (vi (t9 : Int)), some (vi z1)], []) (MS I2 J2 (cc + c9) (ss + 6 * c9)) _
    refine ev_nL hC (fr' := (1470, [some (vr 1000000), some (vr 0), some (vr 135), some (vr 145), some (vi (i : Int)), some (vi (t9 : Int)), some (vi z1)], [vi 0, vr 145])) (S' := MS I2 J2 (cc + c9) (ss + 6 * c9)) 2 rfl ?_
    refine ev_laN (j := 0) (z := (J2 145 0)) (hC _ _ rfl) rfl (by omega) (by omega) (rfl) ?_
    show Ev X k_L_law (1471, [some (vr 1000000), some (vr 0), some (vr 135), some (vr 145), some (vi (i : Int)), some (vi (t9 : Int)), some (vi z1)], [vl (J2 145 0)]) (MS I2 J2 (cc + c9) (ss + 6 * c9)) _
    refine ev_nL hC (fr' := (1474, [some (vr 1000000), some (vr 0), some (vr 135), some (vr 145), some (vi (i : Int)), some (vi (t9 : Int)), some (vi z1)], [vl z1, vl (J2 145 0)])) (S' := MS I2 J2 (cc + c9) (ss + 6 * c9)) 2 rfl ?_
    refine ev_lc (c := .eq) (off := 5) (hC _ _ rfl) (hC _ _ rfl) (by decide) (fun (g3 : (J2 145 0) = z1) => ?_) (fun (g3 : ¬ ((J2 145 0) = z1)) => False.elim (g3 (hz (by omega)).1))
    show Ev X k_L_law (1480, [some (vr 1000000), some (vr 0), some (vr 135), some (vr 145), some (vi (i : Int)), some (vi (t9 : Int)), some (vi z1)], []) (MS I2 J2 (cc + c9) (ss + 6 * c9)) _
    refine ev_nL hC (fr' := (2672, [some (vr 1000000), some (vr 0), some (vr 135), some (vr 145), some (vi (i : Int)), some (vi (t9 : Int)), some (vi z1)], [])) (S' := MS I2 J2 (cc + c9) (ss + 6 * c9)) 1 rfl ?_
    exact K _ _ _ _ _ hc hI
set_option maxRecDepth 100000 in
noncomputable def cl_addUse : List (Nat × AI) := [(1483, .aload_n 1, 1, (0, 0, 0)), (1484, .aload_n 0, 1, (0, 0, 0)), (1485, .iload 4, 2, (0, 0, 0)), (1487, .iconst 1, 1, (0, 0, 0)), (1488, .iadd, 1, (0, 0, 0)), (1489, .iaload, 1, (0, 0, 0)), (1490, .aload_n 0, 1, (0, 0, 0)), (1491, .iload 4, 2, (0, 0, 0)), (1493, .iconst 2, 1, (0, 0, 0)), (1494, .iadd, 1, (0, 0, 0)), (1495, .iaload, 1, (0, 0, 0)), (1496, .aload_n 0, 1, (0, 0, 0)), (1497, .iload 4, 2, (0, 0, 0)), (1499, .iconst 3, 1, (0, 0, 0)), (1500, .iadd, 1, (0, 0, 0)), (1501, .iaload, 1, (0, 0, 0)), (1502, .aload_n 0, 1, (0, 0, 0)), (1503, .iload 4, 2, (0, 0, 0)), (1505, .iconst 4, 1, (0, 0, 0)), (1506, .iadd, 1, (0, 0, 0)), (1507, .iaload, 1, (0, 0, 0)), (1508, .aload_n 3, 1, (0, 0, 0)), (1509, .invokestatic 200, 3, (10, 266, 6)), (1512, .istore 5, 2, (0, 0, 0)), (1514, .aload_n 2, 1, (0, 0, 0)), (1515, .aload_n 0, 1, (0, 0, 0)), (1516, .iload 4, 2, (0, 0, 0)), (1518, .iconst 1, 1, (0, 0, 0)), (1519, .iadd, 1, (0, 0, 0)), (1520, .iaload, 1, (0, 0, 0)), (1521, .aload_n 0, 1, (0, 0, 0)), (1522, .iload 4, 2, (0, 0, 0)), (1524, .iconst 2, 1, (0, 0, 0)), (1525, .iadd, 1, (0, 0, 0)), (1526, .iaload, 1, (0, 0, 0)), (1527, .aload_n 0, 1, (0, 0, 0)), (1528, .iload 4, 2, (0, 0, 0)), (1530, .iconst 3, 1, (0, 0, 0)), (1531, .iadd, 1, (0, 0, 0)), (1532, .iaload, 1, (0, 0, 0)), (1533, .aload_n 0, 1, (0, 0, 0)), (1534, .iload 4, 2, (0, 0, 0)), (1536, .iconst 4, 1, (0, 0, 0)), (1537, .iadd, 1, (0, 0, 0)), (1538, .iaload, 1, (0, 0, 0)), (1539, .invokevirtual 202, 3, (1, 127, 4)), (1542, .istore 6, 2, (0, 0, 0)), (1544, .aload_n 2, 1, (0, 0, 0)), (1545, .invokevirtual 133, 3, (1, 56, 0)), (1548, .iload 5, 2, (0, 0, 0)), (1550, .if_icmp .eq 5, 3, (0, 0, 0)), (1553, .iconst 0, 1, (0, 0, 0)), (1554, .ireturn, 1, (1, 0, 0)), (1555, .iload 5, 2, (0, 0, 0)), (1557, .ifCond .ne 15, 3, (0, 0, 0)), (1560, .aload_n 3, 1, (0, 0, 0)), (1561, .iconst 0, 1, (0, 0, 0)), (1562, .laload, 1, (0, 0, 0)), (1563, .iload 6, 2, (0, 0, 0)), (1565, .i2l, 1, (0, 0, 0)), (1566, .lcmp, 1, (0, 0, 0)), (1567, .ifCond .eq 5, 3, (0, 0, 0)), (1570, .iconst 0, 1, (0, 0, 0)), (1571, .ireturn, 1, (1, 0, 0)), (1572, .goto 1100, 3, (0, 0, 0))]
set_option maxRecDepth 100000 in
theorem ck_addUse : lkS cl_addUse k_L_law := lkS_of (by decide +kernel)
theorem lw_addUse (X : AX) (I J : Nat → Nat → Int) (cc ss : Nat) {Q : (Option AV ⊕ Nat) → AS → Prop} (i : Nat) (hi : i + 6 ≤ X.1) (h72 : X.1 ≤ 3072) (v5 v6 : Option AV) (H : Two X k_L_addUse k_X9_addUse (0, [some (vr 0), some (vi (X.2 (i + 1))), some (vi (X.2 (i + 2))), some (vi (X.2 (i + 3))), some (vi (X.2 (i + 4))), some (vr 145), none], []) (0, [some (vr 135), some (vi (X.2 (i + 1))), some (vi (X.2 (i + 2))), some (vi (X.2 (i + 3))), some (vi (X.2 (i + 4))), none], []) (fun _ => True) I J cc ss) (K : ∀ I' J' c v5 v6, c ≤ 1 → INV I' J' → Ev X k_L_law (2672, [some (vr 1000000), some (vr 0), some (vr 135), some (vr 145), some (vi (i : Int)), v5, v6], []) (MS I' J' (cc + c) (ss + 6 * c)) Q) : Ev X k_L_law (1483, [some (vr 1000000), some (vr 0), some (vr 135), some (vr 145), some (vi (i : Int)), v5, v6], []) (MS I J cc ss) (Q) := by
  have hC := ck_addUse
  refine ev_nL hC (fr' := (1488, [some (vr 1000000), some (vr 0), some (vr 135), some (vr 145), some (vi (i : Int)), v5, v6], [vi 1, vi (i : Int), vr 1000000, vr 0])) (S' := MS I J cc ss) 4 rfl ?_
  refine ev_add (z := (i : Int) + 1) (hC _ _ rfl) (by omega) (by omega) (by omega) ?_
  show Ev X k_L_law (1489, [some (vr 1000000), some (vr 0), some (vr 135), some (vr 145), some (vi (i : Int)), v5, v6], [vi ((i : Int) + 1), vr 1000000, vr 0]) (MS I J cc ss) _
  refine ev_xsN (j := i + 1) (hC _ _ rfl) rfl (by omega) (by omega) rfl ?_
  show Ev X k_L_law (1490, [some (vr 1000000), some (vr 0), some (vr 135), some (vr 145), some (vi (i : Int)), v5, v6], [vi (X.2 (i + 1)), vr 0]) (MS I J cc ss) _
  refine ev_nL hC (fr' := (1494, [some (vr 1000000), some (vr 0), some (vr 135), some (vr 145), some (vi (i : Int)), v5, v6], [vi 2, vi (i : Int), vr 1000000, vi (X.2 (i + 1)), vr 0])) (S' := MS I J cc ss) 3 rfl ?_
  refine ev_add (z := (i : Int) + 2) (hC _ _ rfl) (by omega) (by omega) (by omega) ?_
  show Ev X k_L_law (1495, [some (vr 1000000), some (vr 0), some (vr 135), some (vr 145), some (vi (i : Int)), v5, v6], [vi ((i : Int) + 2), vr 1000000, vi (X.2 (i + 1)), vr 0]) (MS I J cc ss) _
  refine ev_xsN (j := i + 2) (hC _ _ rfl) rfl (by omega) (by omega) rfl ?_
  show Ev X k_L_law (1496, [some (vr 1000000), some (vr 0), some (vr 135), some (vr 145), some (vi (i : Int)), v5, v6], [vi (X.2 (i + 2)), vi (X.2 (i + 1)), vr 0]) (MS I J cc ss) _
  refine ev_nL hC (fr' := (1500, [some (vr 1000000), some (vr 0), some (vr 135), some (vr 145), some (vi (i : Int)), v5, v6], [vi 3, vi (i : Int), vr 1000000, vi (X.2 (i + 2)), vi (X.2 (i + 1)), vr 0])) (S' := MS I J cc ss) 3 rfl ?_
  refine ev_add (z := (i : Int) + 3) (hC _ _ rfl) (by omega) (by omega) (by omega) ?_
  show Ev X k_L_law (1501, [some (vr 1000000), some (vr 0), some (vr 135), some (vr 145), some (vi (i : Int)), v5, v6], [vi ((i : Int) + 3), vr 1000000, vi (X.2 (i + 2)), vi (X.2 (i + 1)), vr 0]) (MS I J cc ss) _
  refine ev_xsN (j := i + 3) (hC _ _ rfl) rfl (by omega) (by omega) rfl ?_
  show Ev X k_L_law (1502, [some (vr 1000000), some (vr 0), some (vr 135), some (vr 145), some (vi (i : Int)), v5, v6], [vi (X.2 (i + 3)), vi (X.2 (i + 2)), vi (X.2 (i + 1)), vr 0]) (MS I J cc ss) _
  refine ev_nL hC (fr' := (1506, [some (vr 1000000), some (vr 0), some (vr 135), some (vr 145), some (vi (i : Int)), v5, v6], [vi 4, vi (i : Int), vr 1000000, vi (X.2 (i + 3)), vi (X.2 (i + 2)), vi (X.2 (i + 1)), vr 0])) (S' := MS I J cc ss) 3 rfl ?_
  refine ev_add (z := (i : Int) + 4) (hC _ _ rfl) (by omega) (by omega) (by omega) ?_
  show Ev X k_L_law (1507, [some (vr 1000000), some (vr 0), some (vr 135), some (vr 145), some (vi (i : Int)), v5, v6], [vi ((i : Int) + 4), vr 1000000, vi (X.2 (i + 3)), vi (X.2 (i + 2)), vi (X.2 (i + 1)), vr 0]) (MS I J cc ss) _
  refine ev_xsN (j := i + 4) (hC _ _ rfl) rfl (by omega) (by omega) rfl ?_
  show Ev X k_L_law (1508, [some (vr 1000000), some (vr 0), some (vr 135), some (vr 145), some (vi (i : Int)), v5, v6], [vi (X.2 (i + 4)), vi (X.2 (i + 3)), vi (X.2 (i + 2)), vi (X.2 (i + 1)), vr 0]) (MS I J cc ss) _
  refine ev_nL hC (fr' := (1509, [some (vr 1000000), some (vr 0), some (vr 135), some (vr 145), some (vi (i : Int)), v5, v6], [vr 145, vi (X.2 (i + 4)), vi (X.2 (i + 3)), vi (X.2 (i + 2)), vi (X.2 (i + 1)), vr 0])) (S' := MS I J cc ss) 1 rfl ?_
  refine ev_ct (hC _ _ rfl) rfl rfl ⟨Nat.le_of_ble_eq_true rfl, Nat.le_of_ble_eq_true rfl⟩ (H) (fun t9 c9 I1 J1 q1 => ?_)
  obtain ⟨hc, hr⟩ := q1
  show Ev X k_L_law (1512, [some (vr 1000000), some (vr 0), some (vr 135), some (vr 145), some (vi (i : Int)), v5, v6], [vi (t9 : Int)]) (MS I1 J1 (cc + c9) (ss + 6 * c9)) _
  refine ev_nL hC (fr' := (1519, [some (vr 1000000), some (vr 0), some (vr 135), some (vr 145), some (vi (i : Int)), some (vi (t9 : Int)), v6], [vi 1, vi (i : Int), vr 1000000, vr 135])) (S' := MS I1 J1 (cc + c9) (ss + 6 * c9)) 5 rfl ?_
  refine ev_add (z := (i : Int) + 1) (hC _ _ rfl) (by omega) (by omega) (by omega) ?_
  show Ev X k_L_law (1520, [some (vr 1000000), some (vr 0), some (vr 135), some (vr 145), some (vi (i : Int)), some (vi (t9 : Int)), v6], [vi ((i : Int) + 1), vr 1000000, vr 135]) (MS I1 J1 (cc + c9) (ss + 6 * c9)) _
  refine ev_xsN (j := i + 1) (hC _ _ rfl) rfl (by omega) (by omega) rfl ?_
  show Ev X k_L_law (1521, [some (vr 1000000), some (vr 0), some (vr 135), some (vr 145), some (vi (i : Int)), some (vi (t9 : Int)), v6], [vi (X.2 (i + 1)), vr 135]) (MS I1 J1 (cc + c9) (ss + 6 * c9)) _
  refine ev_nL hC (fr' := (1525, [some (vr 1000000), some (vr 0), some (vr 135), some (vr 145), some (vi (i : Int)), some (vi (t9 : Int)), v6], [vi 2, vi (i : Int), vr 1000000, vi (X.2 (i + 1)), vr 135])) (S' := MS I1 J1 (cc + c9) (ss + 6 * c9)) 3 rfl ?_
  refine ev_add (z := (i : Int) + 2) (hC _ _ rfl) (by omega) (by omega) (by omega) ?_
  show Ev X k_L_law (1526, [some (vr 1000000), some (vr 0), some (vr 135), some (vr 145), some (vi (i : Int)), some (vi (t9 : Int)), v6], [vi ((i : Int) + 2), vr 1000000, vi (X.2 (i + 1)), vr 135]) (MS I1 J1 (cc + c9) (ss + 6 * c9)) _
  refine ev_xsN (j := i + 2) (hC _ _ rfl) rfl (by omega) (by omega) rfl ?_
  show Ev X k_L_law (1527, [some (vr 1000000), some (vr 0), some (vr 135), some (vr 145), some (vi (i : Int)), some (vi (t9 : Int)), v6], [vi (X.2 (i + 2)), vi (X.2 (i + 1)), vr 135]) (MS I1 J1 (cc + c9) (ss + 6 * c9)) _
  refine ev_nL hC (fr' := (1531, [some (vr 1000000), some (vr 0), some (vr 135), some (vr 145), some (vi (i : Int)), some (vi (t9 : Int)), v6], [vi 3, vi (i : Int), vr 1000000, vi (X.2 (i + 2)), vi (X.2 (i + 1)), vr 135])) (S' := MS I1 J1 (cc + c9) (ss + 6 * c9)) 3 rfl ?_
  refine ev_add (z := (i : Int) + 3) (hC _ _ rfl) (by omega) (by omega) (by omega) ?_
  show Ev X k_L_law (1532, [some (vr 1000000), some (vr 0), some (vr 135), some (vr 145), some (vi (i : Int)), some (vi (t9 : Int)), v6], [vi ((i : Int) + 3), vr 1000000, vi (X.2 (i + 2)), vi (X.2 (i + 1)), vr 135]) (MS I1 J1 (cc + c9) (ss + 6 * c9)) _
  refine ev_xsN (j := i + 3) (hC _ _ rfl) rfl (by omega) (by omega) rfl ?_
  show Ev X k_L_law (1533, [some (vr 1000000), some (vr 0), some (vr 135), some (vr 145), some (vi (i : Int)), some (vi (t9 : Int)), v6], [vi (X.2 (i + 3)), vi (X.2 (i + 2)), vi (X.2 (i + 1)), vr 135]) (MS I1 J1 (cc + c9) (ss + 6 * c9)) _
  refine ev_nL hC (fr' := (1537, [some (vr 1000000), some (vr 0), some (vr 135), some (vr 145), some (vi (i : Int)), some (vi (t9 : Int)), v6], [vi 4, vi (i : Int), vr 1000000, vi (X.2 (i + 3)), vi (X.2 (i + 2)), vi (X.2 (i + 1)), vr 135])) (S' := MS I1 J1 (cc + c9) (ss + 6 * c9)) 3 rfl ?_
  refine ev_add (z := (i : Int) + 4) (hC _ _ rfl) (by omega) (by omega) (by omega) ?_
  show Ev X k_L_law (1538, [some (vr 1000000), some (vr 0), some (vr 135), some (vr 145), some (vi (i : Int)), some (vi (t9 : Int)), v6], [vi ((i : Int) + 4), vr 1000000, vi (X.2 (i + 3)), vi (X.2 (i + 2)), vi (X.2 (i + 1)), vr 135]) (MS I1 J1 (cc + c9) (ss + 6 * c9)) _
  refine ev_xsN (j := i + 4) (hC _ _ rfl) rfl (by omega) (by omega) rfl ?_
  show Ev X k_L_law (1539, [some (vr 1000000), some (vr 0), some (vr 135), some (vr 145), some (vi (i : Int)), some (vi (t9 : Int)), v6], [vi (X.2 (i + 4)), vi (X.2 (i + 3)), vi (X.2 (i + 2)), vi (X.2 (i + 1)), vr 135]) (MS I1 J1 (cc + c9) (ss + 6 * c9)) _
  refine ev_cz (hC _ _ rfl) rfl rfl ⟨Nat.le_of_ble_eq_true rfl, Nat.le_of_ble_eq_true rfl⟩ (hr) (fun z1 I2 J2 q2 => ?_)
  obtain ⟨h4, hz, hI⟩ := q2
  show Ev X k_L_law (1542, [some (vr 1000000), some (vr 0), some (vr 135), some (vr 145), some (vi (i : Int)), some (vi (t9 : Int)), v6], [vi z1]) (MS I2 J2 (cc + c9) (ss + 6 * c9)) _
  refine ev_nL hC (fr' := (1545, [some (vr 1000000), some (vr 0), some (vr 135), some (vr 145), some (vi (i : Int)), some (vi (t9 : Int)), some (vi z1)], [vr 135])) (S' := MS I2 J2 (cc + c9) (ss + 6 * c9)) 2 rfl ?_
  refine ev_cv (hC _ _ rfl) rfl rfl ⟨Nat.le_of_ble_eq_true rfl, Nat.le_of_ble_eq_true rfl⟩ (sp_thrown X _ _ _ _ h4) ?_
  show Ev X k_L_law (1548, [some (vr 1000000), some (vr 0), some (vr 135), some (vr 145), some (vi (i : Int)), some (vi (t9 : Int)), some (vi z1)], [vi (t9 : Int)]) (MS I2 J2 (cc + c9) (ss + 6 * c9)) _
  refine ev_nL hC (fr' := (1550, [some (vr 1000000), some (vr 0), some (vr 135), some (vr 145), some (vi (i : Int)), some (vi (t9 : Int)), some (vi z1)], [vi (t9 : Int), vi (t9 : Int)])) (S' := MS I2 J2 (cc + c9) (ss + 6 * c9)) 1 rfl ?_
  refine ev_ic (c := .eq) (off := 5) (hC _ _ rfl) (by decide) (fun (g1 : (t9 : Int) = (t9 : Int)) => ?_) (fun (g1 : ¬ ((t9 : Int) = (t9 : Int))) => False.elim (g1 rfl))
  show Ev X k_L_law (1555, [some (vr 1000000), some (vr 0), some (vr 135), some (vr 145), some (vi (i : Int)), some (vi (t9 : Int)), some (vi z1)], []) (MS I2 J2 (cc + c9) (ss + 6 * c9)) _
  refine ev_nL hC (fr' := (1557, [some (vr 1000000), some (vr 0), some (vr 135), some (vr 145), some (vi (i : Int)), some (vi (t9 : Int)), some (vi z1)], [vi (t9 : Int)])) (S' := MS I2 J2 (cc + c9) (ss + 6 * c9)) 1 rfl ?_
  refine ev_if (c := .ne) (off := 15) (hC _ _ rfl) (by decide) (fun (g2 : (t9 : Int) ≠ 0) => ?_) (fun (g2 : ¬ ((t9 : Int) ≠ 0)) => ?_)
  · show Ev X k_L_law (1572, [some (vr 1000000), some (vr 0), some (vr 135), some (vr 145), some (vi (i : Int)), some (vi (t9 : Int)), some (vi z1)], []) (MS I2 J2 (cc + c9) (ss + 6 * c9)) _
    refine ev_nL hC (fr' := (2672, [some (vr 1000000), some (vr 0), some (vr 135), some (vr 145), some (vi (i : Int)), some (vi (t9 : Int)), some (vi z1)], [])) (S' := MS I2 J2 (cc + c9) (ss + 6 * c9)) 1 rfl ?_
    exact K _ _ _ _ _ hc hI
  · show Ev X k_L_law (1560, [some (vr 1000000), some (vr 0), some (vr 135), some (vr 145), some (vi (i : Int)), some (vi (t9 : Int)), some (vi z1)], []) (MS I2 J2 (cc + c9) (ss + 6 * c9)) _
    refine ev_nL hC (fr' := (1562, [some (vr 1000000), some (vr 0), some (vr 135), some (vr 145), some (vi (i : Int)), some (vi (t9 : Int)), some (vi z1)], [vi 0, vr 145])) (S' := MS I2 J2 (cc + c9) (ss + 6 * c9)) 2 rfl ?_
    refine ev_laN (j := 0) (z := (J2 145 0)) (hC _ _ rfl) rfl (by omega) (by omega) (rfl) ?_
    show Ev X k_L_law (1563, [some (vr 1000000), some (vr 0), some (vr 135), some (vr 145), some (vi (i : Int)), some (vi (t9 : Int)), some (vi z1)], [vl (J2 145 0)]) (MS I2 J2 (cc + c9) (ss + 6 * c9)) _
    refine ev_nL hC (fr' := (1566, [some (vr 1000000), some (vr 0), some (vr 135), some (vr 145), some (vi (i : Int)), some (vi (t9 : Int)), some (vi z1)], [vl z1, vl (J2 145 0)])) (S' := MS I2 J2 (cc + c9) (ss + 6 * c9)) 2 rfl ?_
    refine ev_lc (c := .eq) (off := 5) (hC _ _ rfl) (hC _ _ rfl) (by decide) (fun (g3 : (J2 145 0) = z1) => ?_) (fun (g3 : ¬ ((J2 145 0) = z1)) => False.elim (g3 (hz (by omega)).1))
    show Ev X k_L_law (1572, [some (vr 1000000), some (vr 0), some (vr 135), some (vr 145), some (vi (i : Int)), some (vi (t9 : Int)), some (vi z1)], []) (MS I2 J2 (cc + c9) (ss + 6 * c9)) _
    refine ev_nL hC (fr' := (2672, [some (vr 1000000), some (vr 0), some (vr 135), some (vr 145), some (vi (i : Int)), some (vi (t9 : Int)), some (vi z1)], [])) (S' := MS I2 J2 (cc + c9) (ss + 6 * c9)) 1 rfl ?_
    exact K _ _ _ _ _ hc hI
set_option maxRecDepth 100000 in
noncomputable def cl_moveUse : List (Nat × AI) := [(1575, .aload_n 1, 1, (0, 0, 0)), (1576, .aload_n 0, 1, (0, 0, 0)), (1577, .iload 4, 2, (0, 0, 0)), (1579, .iconst 1, 1, (0, 0, 0)), (1580, .iadd, 1, (0, 0, 0)), (1581, .iaload, 1, (0, 0, 0)), (1582, .aload_n 0, 1, (0, 0, 0)), (1583, .iload 4, 2, (0, 0, 0)), (1585, .iconst 2, 1, (0, 0, 0)), (1586, .iadd, 1, (0, 0, 0)), (1587, .iaload, 1, (0, 0, 0)), (1588, .aload_n 0, 1, (0, 0, 0)), (1589, .iload 4, 2, (0, 0, 0)), (1591, .iconst 3, 1, (0, 0, 0)), (1592, .iadd, 1, (0, 0, 0)), (1593, .iaload, 1, (0, 0, 0)), (1594, .aload_n 0, 1, (0, 0, 0)), (1595, .iload 4, 2, (0, 0, 0)), (1597, .iconst 4, 1, (0, 0, 0)), (1598, .iadd, 1, (0, 0, 0)), (1599, .iaload, 1, (0, 0, 0)), (1600, .aload_n 3, 1, (0, 0, 0)), (1601, .invokestatic 203, 3, (10, 267, 6)), (1604, .istore 5, 2, (0, 0, 0)), (1606, .aload_n 2, 1, (0, 0, 0)), (1607, .aload_n 0, 1, (0, 0, 0)), (1608, .iload 4, 2, (0, 0, 0)), (1610, .iconst 1, 1, (0, 0, 0)), (1611, .iadd, 1, (0, 0, 0)), (1612, .iaload, 1, (0, 0, 0)), (1613, .aload_n 0, 1, (0, 0, 0)), (1614, .iload 4, 2, (0, 0, 0)), (1616, .iconst 2, 1, (0, 0, 0)), (1617, .iadd, 1, (0, 0, 0)), (1618, .iaload, 1, (0, 0, 0)), (1619, .aload_n 0, 1, (0, 0, 0)), (1620, .iload 4, 2, (0, 0, 0)), (1622, .iconst 3, 1, (0, 0, 0)), (1623, .iadd, 1, (0, 0, 0)), (1624, .iaload, 1, (0, 0, 0)), (1625, .aload_n 0, 1, (0, 0, 0)), (1626, .iload 4, 2, (0, 0, 0)), (1628, .iconst 4, 1, (0, 0, 0)), (1629, .iadd, 1, (0, 0, 0)), (1630, .iaload, 1, (0, 0, 0)), (1631, .invokevirtual 205, 3, (1, 128, 4)), (1634, .istore 6, 2, (0, 0, 0)), (1636, .aload_n 2, 1, (0, 0, 0)), (1637, .invokevirtual 133, 3, (1, 56, 0)), (1640, .iload 5, 2, (0, 0, 0)), (1642, .if_icmp .eq 5, 3, (0, 0, 0)), (1645, .iconst 0, 1, (0, 0, 0)), (1646, .ireturn, 1, (1, 0, 0)), (1647, .iload 5, 2, (0, 0, 0)), (1649, .ifCond .ne 15, 3, (0, 0, 0)), (1652, .aload_n 3, 1, (0, 0, 0)), (1653, .iconst 0, 1, (0, 0, 0)), (1654, .laload, 1, (0, 0, 0)), (1655, .iload 6, 2, (0, 0, 0)), (1657, .i2l, 1, (0, 0, 0)), (1658, .lcmp, 1, (0, 0, 0)), (1659, .ifCond .eq 5, 3, (0, 0, 0)), (1662, .iconst 0, 1, (0, 0, 0)), (1663, .ireturn, 1, (1, 0, 0)), (1664, .goto 1008, 3, (0, 0, 0))]
set_option maxRecDepth 100000 in
theorem ck_moveUse : lkS cl_moveUse k_L_law := lkS_of (by decide +kernel)
theorem lw_moveUse (X : AX) (I J : Nat → Nat → Int) (cc ss : Nat) {Q : (Option AV ⊕ Nat) → AS → Prop} (i : Nat) (hi : i + 6 ≤ X.1) (h72 : X.1 ≤ 3072) (v5 v6 : Option AV) (H : Two X k_L_moveUse k_X9_moveUse (0, [some (vr 0), some (vi (X.2 (i + 1))), some (vi (X.2 (i + 2))), some (vi (X.2 (i + 3))), some (vi (X.2 (i + 4))), some (vr 145), none], []) (0, [some (vr 135), some (vi (X.2 (i + 1))), some (vi (X.2 (i + 2))), some (vi (X.2 (i + 3))), some (vi (X.2 (i + 4)))], []) (fun _ => True) I J cc ss) (K : ∀ I' J' c v5 v6, c ≤ 1 → INV I' J' → Ev X k_L_law (2672, [some (vr 1000000), some (vr 0), some (vr 135), some (vr 145), some (vi (i : Int)), v5, v6], []) (MS I' J' (cc + c) (ss + 6 * c)) Q) : Ev X k_L_law (1575, [some (vr 1000000), some (vr 0), some (vr 135), some (vr 145), some (vi (i : Int)), v5, v6], []) (MS I J cc ss) (Q) := by
  have hC := ck_moveUse
  refine ev_nL hC (fr' := (1580, [some (vr 1000000), some (vr 0), some (vr 135), some (vr 145), some (vi (i : Int)), v5, v6], [vi 1, vi (i : Int), vr 1000000, vr 0])) (S' := MS I J cc ss) 4 rfl ?_
  refine ev_add (z := (i : Int) + 1) (hC _ _ rfl) (by omega) (by omega) (by omega) ?_
  show Ev X k_L_law (1581, [some (vr 1000000), some (vr 0), some (vr 135), some (vr 145), some (vi (i : Int)), v5, v6], [vi ((i : Int) + 1), vr 1000000, vr 0]) (MS I J cc ss) _
  refine ev_xsN (j := i + 1) (hC _ _ rfl) rfl (by omega) (by omega) rfl ?_
  show Ev X k_L_law (1582, [some (vr 1000000), some (vr 0), some (vr 135), some (vr 145), some (vi (i : Int)), v5, v6], [vi (X.2 (i + 1)), vr 0]) (MS I J cc ss) _
  refine ev_nL hC (fr' := (1586, [some (vr 1000000), some (vr 0), some (vr 135), some (vr 145), some (vi (i : Int)), v5, v6], [vi 2, vi (i : Int), vr 1000000, vi (X.2 (i + 1)), vr 0])) (S' := MS I J cc ss) 3 rfl ?_
  refine ev_add (z := (i : Int) + 2) (hC _ _ rfl) (by omega) (by omega) (by omega) ?_
  show Ev X k_L_law (1587, [some (vr 1000000), some (vr 0), some (vr 135), some (vr 145), some (vi (i : Int)), v5, v6], [vi ((i : Int) + 2), vr 1000000, vi (X.2 (i + 1)), vr 0]) (MS I J cc ss) _
  refine ev_xsN (j := i + 2) (hC _ _ rfl) rfl (by omega) (by omega) rfl ?_
  show Ev X k_L_law (1588, [some (vr 1000000), some (vr 0), some (vr 135), some (vr 145), some (vi (i : Int)), v5, v6], [vi (X.2 (i + 2)), vi (X.2 (i + 1)), vr 0]) (MS I J cc ss) _
  refine ev_nL hC (fr' := (1592, [some (vr 1000000), some (vr 0), some (vr 135), some (vr 145), some (vi (i : Int)), v5, v6], [vi 3, vi (i : Int), vr 1000000, vi (X.2 (i + 2)), vi (X.2 (i + 1)), vr 0])) (S' := MS I J cc ss) 3 rfl ?_
  refine ev_add (z := (i : Int) + 3) (hC _ _ rfl) (by omega) (by omega) (by omega) ?_
  show Ev X k_L_law (1593, [some (vr 1000000), some (vr 0), some (vr 135), some (vr 145), some (vi (i : Int)), v5, v6], [vi ((i : Int) + 3), vr 1000000, vi (X.2 (i + 2)), vi (X.2 (i + 1)), vr 0]) (MS I J cc ss) _
  refine ev_xsN (j := i + 3) (hC _ _ rfl) rfl (by omega) (by omega) rfl ?_
  show Ev X k_L_law (1594, [some (vr 1000000), some (vr 0), some (vr 135), some (vr 145), some (vi (i : Int)), v5, v6], [vi (X.2 (i + 3)), vi (X.2 (i + 2)), vi (X.2 (i + 1)), vr 0]) (MS I J cc ss) _
  refine ev_nL hC (fr' := (1598, [some (vr 1000000), some (vr 0), some (vr 135), some (vr 145), some (vi (i : Int)), v5, v6], [vi 4, vi (i : Int), vr 1000000, vi (X.2 (i + 3)), vi (X.2 (i + 2)), vi (X.2 (i + 1)), vr 0])) (S' := MS I J cc ss) 3 rfl ?_
  refine ev_add (z := (i : Int) + 4) (hC _ _ rfl) (by omega) (by omega) (by omega) ?_
  show Ev X k_L_law (1599, [some (vr 1000000), some (vr 0), some (vr 135), some (vr 145), some (vi (i : Int)), v5, v6], [vi ((i : Int) + 4), vr 1000000, vi (X.2 (i + 3)), vi (X.2 (i + 2)), vi (X.2 (i + 1)), vr 0]) (MS I J cc ss) _
  refine ev_xsN (j := i + 4) (hC _ _ rfl) rfl (by omega) (by omega) rfl ?_
  show Ev X k_L_law (1600, [some (vr 1000000), some (vr 0), some (vr 135), some (vr 145), some (vi (i : Int)), v5, v6], [vi (X.2 (i + 4)), vi (X.2 (i + 3)), vi (X.2 (i + 2)), vi (X.2 (i + 1)), vr 0]) (MS I J cc ss) _
  refine ev_nL hC (fr' := (1601, [some (vr 1000000), some (vr 0), some (vr 135), some (vr 145), some (vi (i : Int)), v5, v6], [vr 145, vi (X.2 (i + 4)), vi (X.2 (i + 3)), vi (X.2 (i + 2)), vi (X.2 (i + 1)), vr 0])) (S' := MS I J cc ss) 1 rfl ?_
  refine ev_ct (hC _ _ rfl) rfl rfl ⟨Nat.le_of_ble_eq_true rfl, Nat.le_of_ble_eq_true rfl⟩ (H) (fun t9 c9 I1 J1 q1 => ?_)
  obtain ⟨hc, hr⟩ := q1
  show Ev X k_L_law (1604, [some (vr 1000000), some (vr 0), some (vr 135), some (vr 145), some (vi (i : Int)), v5, v6], [vi (t9 : Int)]) (MS I1 J1 (cc + c9) (ss + 6 * c9)) _
  refine ev_nL hC (fr' := (1611, [some (vr 1000000), some (vr 0), some (vr 135), some (vr 145), some (vi (i : Int)), some (vi (t9 : Int)), v6], [vi 1, vi (i : Int), vr 1000000, vr 135])) (S' := MS I1 J1 (cc + c9) (ss + 6 * c9)) 5 rfl ?_
  refine ev_add (z := (i : Int) + 1) (hC _ _ rfl) (by omega) (by omega) (by omega) ?_
  show Ev X k_L_law (1612, [some (vr 1000000), some (vr 0), some (vr 135), some (vr 145), some (vi (i : Int)), some (vi (t9 : Int)), v6], [vi ((i : Int) + 1), vr 1000000, vr 135]) (MS I1 J1 (cc + c9) (ss + 6 * c9)) _
  refine ev_xsN (j := i + 1) (hC _ _ rfl) rfl (by omega) (by omega) rfl ?_
  show Ev X k_L_law (1613, [some (vr 1000000), some (vr 0), some (vr 135), some (vr 145), some (vi (i : Int)), some (vi (t9 : Int)), v6], [vi (X.2 (i + 1)), vr 135]) (MS I1 J1 (cc + c9) (ss + 6 * c9)) _
  refine ev_nL hC (fr' := (1617, [some (vr 1000000), some (vr 0), some (vr 135), some (vr 145), some (vi (i : Int)), some (vi (t9 : Int)), v6], [vi 2, vi (i : Int), vr 1000000, vi (X.2 (i + 1)), vr 135])) (S' := MS I1 J1 (cc + c9) (ss + 6 * c9)) 3 rfl ?_
  refine ev_add (z := (i : Int) + 2) (hC _ _ rfl) (by omega) (by omega) (by omega) ?_
  show Ev X k_L_law (1618, [some (vr 1000000), some (vr 0), some (vr 135), some (vr 145), some (vi (i : Int)), some (vi (t9 : Int)), v6], [vi ((i : Int) + 2), vr 1000000, vi (X.2 (i + 1)), vr 135]) (MS I1 J1 (cc + c9) (ss + 6 * c9)) _
  refine ev_xsN (j := i + 2) (hC _ _ rfl) rfl (by omega) (by omega) rfl ?_
  show Ev X k_L_law (1619, [some (vr 1000000), some (vr 0), some (vr 135), some (vr 145), some (vi (i : Int)), some (vi (t9 : Int)), v6], [vi (X.2 (i + 2)), vi (X.2 (i + 1)), vr 135]) (MS I1 J1 (cc + c9) (ss + 6 * c9)) _
  refine ev_nL hC (fr' := (1623, [some (vr 1000000), some (vr 0), some (vr 135), some (vr 145), some (vi (i : Int)), some (vi (t9 : Int)), v6], [vi 3, vi (i : Int), vr 1000000, vi (X.2 (i + 2)), vi (X.2 (i + 1)), vr 135])) (S' := MS I1 J1 (cc + c9) (ss + 6 * c9)) 3 rfl ?_
  refine ev_add (z := (i : Int) + 3) (hC _ _ rfl) (by omega) (by omega) (by omega) ?_
  show Ev X k_L_law (1624, [some (vr 1000000), some (vr 0), some (vr 135), some (vr 145), some (vi (i : Int)), some (vi (t9 : Int)), v6], [vi ((i : Int) + 3), vr 1000000, vi (X.2 (i + 2)), vi (X.2 (i + 1)), vr 135]) (MS I1 J1 (cc + c9) (ss + 6 * c9)) _
  refine ev_xsN (j := i + 3) (hC _ _ rfl) rfl (by omega) (by omega) rfl ?_
  show Ev X k_L_law (1625, [some (vr 1000000), some (vr 0), some (vr 135), some (vr 145), some (vi (i : Int)), some (vi (t9 : Int)), v6], [vi (X.2 (i + 3)), vi (X.2 (i + 2)), vi (X.2 (i + 1)), vr 135]) (MS I1 J1 (cc + c9) (ss + 6 * c9)) _
  refine ev_nL hC (fr' := (1629, [some (vr 1000000), some (vr 0), some (vr 135), some (vr 145), some (vi (i : Int)), some (vi (t9 : Int)), v6], [vi 4, vi (i : Int), vr 1000000, vi (X.2 (i + 3)), vi (X.2 (i + 2)), vi (X.2 (i + 1)), vr 135])) (S' := MS I1 J1 (cc + c9) (ss + 6 * c9)) 3 rfl ?_
  refine ev_add (z := (i : Int) + 4) (hC _ _ rfl) (by omega) (by omega) (by omega) ?_
  show Ev X k_L_law (1630, [some (vr 1000000), some (vr 0), some (vr 135), some (vr 145), some (vi (i : Int)), some (vi (t9 : Int)), v6], [vi ((i : Int) + 4), vr 1000000, vi (X.2 (i + 3)), vi (X.2 (i + 2)), vi (X.2 (i + 1)), vr 135]) (MS I1 J1 (cc + c9) (ss + 6 * c9)) _
  refine ev_xsN (j := i + 4) (hC _ _ rfl) rfl (by omega) (by omega) rfl ?_
  show Ev X k_L_law (1631, [some (vr 1000000), some (vr 0), some (vr 135), some (vr 145), some (vi (i : Int)), some (vi (t9 : Int)), v6], [vi (X.2 (i + 4)), vi (X.2 (i + 3)), vi (X.2 (i + 2)), vi (X.2 (i + 1)), vr 135]) (MS I1 J1 (cc + c9) (ss + 6 * c9)) _
  refine ev_cz (hC _ _ rfl) rfl rfl ⟨Nat.le_of_ble_eq_true rfl, Nat.le_of_ble_eq_true rfl⟩ (hr) (fun z1 I2 J2 q2 => ?_)
  obtain ⟨h4, hz, hI⟩ := q2
  show Ev X k_L_law (1634, [some (vr 1000000), some (vr 0), some (vr 135), some (vr 145), some (vi (i : Int)), some (vi (t9 : Int)), v6], [vi z1]) (MS I2 J2 (cc + c9) (ss + 6 * c9)) _
  refine ev_nL hC (fr' := (1637, [some (vr 1000000), some (vr 0), some (vr 135), some (vr 145), some (vi (i : Int)), some (vi (t9 : Int)), some (vi z1)], [vr 135])) (S' := MS I2 J2 (cc + c9) (ss + 6 * c9)) 2 rfl ?_
  refine ev_cv (hC _ _ rfl) rfl rfl ⟨Nat.le_of_ble_eq_true rfl, Nat.le_of_ble_eq_true rfl⟩ (sp_thrown X _ _ _ _ h4) ?_
  show Ev X k_L_law (1640, [some (vr 1000000), some (vr 0), some (vr 135), some (vr 145), some (vi (i : Int)), some (vi (t9 : Int)), some (vi z1)], [vi (t9 : Int)]) (MS I2 J2 (cc + c9) (ss + 6 * c9)) _
  refine ev_nL hC (fr' := (1642, [some (vr 1000000), some (vr 0), some (vr 135), some (vr 145), some (vi (i : Int)), some (vi (t9 : Int)), some (vi z1)], [vi (t9 : Int), vi (t9 : Int)])) (S' := MS I2 J2 (cc + c9) (ss + 6 * c9)) 1 rfl ?_
  refine ev_ic (c := .eq) (off := 5) (hC _ _ rfl) (by decide) (fun (g1 : (t9 : Int) = (t9 : Int)) => ?_) (fun (g1 : ¬ ((t9 : Int) = (t9 : Int))) => False.elim (g1 rfl))
  show Ev X k_L_law (1647, [some (vr 1000000), some (vr 0), some (vr 135), some (vr 145), some (vi (i : Int)), some (vi (t9 : Int)), some (vi z1)], []) (MS I2 J2 (cc + c9) (ss + 6 * c9)) _
  refine ev_nL hC (fr' := (1649, [some (vr 1000000), some (vr 0), some (vr 135), some (vr 145), some (vi (i : Int)), some (vi (t9 : Int)), some (vi z1)], [vi (t9 : Int)])) (S' := MS I2 J2 (cc + c9) (ss + 6 * c9)) 1 rfl ?_
  refine ev_if (c := .ne) (off := 15) (hC _ _ rfl) (by decide) (fun (g2 : (t9 : Int) ≠ 0) => ?_) (fun (g2 : ¬ ((t9 : Int) ≠ 0)) => ?_)
  · show Ev X k_L_law (1664, [some (vr 1000000), some (vr 0), some (vr 135), some (vr 145), some (vi (i : Int)), some (vi (t9 : Int)), some (vi z1)], []) (MS I2 J2 (cc + c9) (ss + 6 * c9)) _
    refine ev_nL hC (fr' := (2672, [some (vr 1000000), some (vr 0), some (vr 135), some (vr 145), some (vi (i : Int)), some (vi (t9 : Int)), some (vi z1)], [])) (S' := MS I2 J2 (cc + c9) (ss + 6 * c9)) 1 rfl ?_
    exact K _ _ _ _ _ hc hI
  · show Ev X k_L_law (1652, [some (vr 1000000), some (vr 0), some (vr 135), some (vr 145), some (vi (i : Int)), some (vi (t9 : Int)), some (vi z1)], []) (MS I2 J2 (cc + c9) (ss + 6 * c9)) _
    refine ev_nL hC (fr' := (1654, [some (vr 1000000), some (vr 0), some (vr 135), some (vr 145), some (vi (i : Int)), some (vi (t9 : Int)), some (vi z1)], [vi 0, vr 145])) (S' := MS I2 J2 (cc + c9) (ss + 6 * c9)) 2 rfl ?_
    refine ev_laN (j := 0) (z := (J2 145 0)) (hC _ _ rfl) rfl (by omega) (by omega) (rfl) ?_
    show Ev X k_L_law (1655, [some (vr 1000000), some (vr 0), some (vr 135), some (vr 145), some (vi (i : Int)), some (vi (t9 : Int)), some (vi z1)], [vl (J2 145 0)]) (MS I2 J2 (cc + c9) (ss + 6 * c9)) _
    refine ev_nL hC (fr' := (1658, [some (vr 1000000), some (vr 0), some (vr 135), some (vr 145), some (vi (i : Int)), some (vi (t9 : Int)), some (vi z1)], [vl z1, vl (J2 145 0)])) (S' := MS I2 J2 (cc + c9) (ss + 6 * c9)) 2 rfl ?_
    refine ev_lc (c := .eq) (off := 5) (hC _ _ rfl) (hC _ _ rfl) (by decide) (fun (g3 : (J2 145 0) = z1) => ?_) (fun (g3 : ¬ ((J2 145 0) = z1)) => False.elim (g3 (hz (by omega)).1))
    show Ev X k_L_law (1664, [some (vr 1000000), some (vr 0), some (vr 135), some (vr 145), some (vi (i : Int)), some (vi (t9 : Int)), some (vi z1)], []) (MS I2 J2 (cc + c9) (ss + 6 * c9)) _
    refine ev_nL hC (fr' := (2672, [some (vr 1000000), some (vr 0), some (vr 135), some (vr 145), some (vi (i : Int)), some (vi (t9 : Int)), some (vi z1)], [])) (S' := MS I2 J2 (cc + c9) (ss + 6 * c9)) 1 rfl ?_
    exact K _ _ _ _ _ hc hI
set_option maxRecDepth 100000 in
noncomputable def cl_removeUse : List (Nat × AI) := [(1667, .aload_n 1, 1, (0, 0, 0)), (1668, .aload_n 0, 1, (0, 0, 0)), (1669, .iload 4, 2, (0, 0, 0)), (1671, .iconst 1, 1, (0, 0, 0)), (1672, .iadd, 1, (0, 0, 0)), (1673, .iaload, 1, (0, 0, 0)), (1674, .aload_n 0, 1, (0, 0, 0)), (1675, .iload 4, 2, (0, 0, 0)), (1677, .iconst 2, 1, (0, 0, 0)), (1678, .iadd, 1, (0, 0, 0)), (1679, .iaload, 1, (0, 0, 0)), (1680, .aload_n 3, 1, (0, 0, 0)), (1681, .invokestatic 206, 3, (10, 268, 4)), (1684, .istore 5, 2, (0, 0, 0)), (1686, .aload_n 2, 1, (0, 0, 0)), (1687, .aload_n 0, 1, (0, 0, 0)), (1688, .iload 4, 2, (0, 0, 0)), (1690, .iconst 1, 1, (0, 0, 0)), (1691, .iadd, 1, (0, 0, 0)), (1692, .iaload, 1, (0, 0, 0)), (1693, .aload_n 0, 1, (0, 0, 0)), (1694, .iload 4, 2, (0, 0, 0)), (1696, .iconst 2, 1, (0, 0, 0)), (1697, .iadd, 1, (0, 0, 0)), (1698, .iaload, 1, (0, 0, 0)), (1699, .invokevirtual 208, 3, (1, 129, 2)), (1702, .istore 6, 2, (0, 0, 0)), (1704, .aload_n 2, 1, (0, 0, 0)), (1705, .invokevirtual 133, 3, (1, 56, 0)), (1708, .iload 5, 2, (0, 0, 0)), (1710, .if_icmp .eq 5, 3, (0, 0, 0)), (1713, .iconst 0, 1, (0, 0, 0)), (1714, .ireturn, 1, (1, 0, 0)), (1715, .iload 5, 2, (0, 0, 0)), (1717, .ifCond .ne 15, 3, (0, 0, 0)), (1720, .aload_n 3, 1, (0, 0, 0)), (1721, .iconst 0, 1, (0, 0, 0)), (1722, .laload, 1, (0, 0, 0)), (1723, .iload 6, 2, (0, 0, 0)), (1725, .i2l, 1, (0, 0, 0)), (1726, .lcmp, 1, (0, 0, 0)), (1727, .ifCond .eq 5, 3, (0, 0, 0)), (1730, .iconst 0, 1, (0, 0, 0)), (1731, .ireturn, 1, (1, 0, 0)), (1732, .goto 940, 3, (0, 0, 0))]
set_option maxRecDepth 100000 in
theorem ck_removeUse : lkS cl_removeUse k_L_law := lkS_of (by decide +kernel)
theorem lw_removeUse (X : AX) (I J : Nat → Nat → Int) (cc ss : Nat) {Q : (Option AV ⊕ Nat) → AS → Prop} (i : Nat) (hi : i + 6 ≤ X.1) (h72 : X.1 ≤ 3072) (v5 v6 : Option AV) (H : Two X k_L_removeUse k_X9_removeUse (0, [some (vr 0), some (vi (X.2 (i + 1))), some (vi (X.2 (i + 2))), some (vr 145), none], []) (0, [some (vr 135), some (vi (X.2 (i + 1))), some (vi (X.2 (i + 2))), none, none], []) (fun _ => True) I J cc ss) (K : ∀ I' J' c v5 v6, c ≤ 1 → INV I' J' → Ev X k_L_law (2672, [some (vr 1000000), some (vr 0), some (vr 135), some (vr 145), some (vi (i : Int)), v5, v6], []) (MS I' J' (cc + c) (ss + 6 * c)) Q) : Ev X k_L_law (1667, [some (vr 1000000), some (vr 0), some (vr 135), some (vr 145), some (vi (i : Int)), v5, v6], []) (MS I J cc ss) (Q) := by
  have hC := ck_removeUse
  refine ev_nL hC (fr' := (1672, [some (vr 1000000), some (vr 0), some (vr 135), some (vr 145), some (vi (i : Int)), v5, v6], [vi 1, vi (i : Int), vr 1000000, vr 0])) (S' := MS I J cc ss) 4 rfl ?_
  refine ev_add (z := (i : Int) + 1) (hC _ _ rfl) (by omega) (by omega) (by omega) ?_
  show Ev X k_L_law (1673, [some (vr 1000000), some (vr 0), some (vr 135), some (vr 145), some (vi (i : Int)), v5, v6], [vi ((i : Int) + 1), vr 1000000, vr 0]) (MS I J cc ss) _
  refine ev_xsN (j := i + 1) (hC _ _ rfl) rfl (by omega) (by omega) rfl ?_
  show Ev X k_L_law (1674, [some (vr 1000000), some (vr 0), some (vr 135), some (vr 145), some (vi (i : Int)), v5, v6], [vi (X.2 (i + 1)), vr 0]) (MS I J cc ss) _
  refine ev_nL hC (fr' := (1678, [some (vr 1000000), some (vr 0), some (vr 135), some (vr 145), some (vi (i : Int)), v5, v6], [vi 2, vi (i : Int), vr 1000000, vi (X.2 (i + 1)), vr 0])) (S' := MS I J cc ss) 3 rfl ?_
  refine ev_add (z := (i : Int) + 2) (hC _ _ rfl) (by omega) (by omega) (by omega) ?_
  show Ev X k_L_law (1679, [some (vr 1000000), some (vr 0), some (vr 135), some (vr 145), some (vi (i : Int)), v5, v6], [vi ((i : Int) + 2), vr 1000000, vi (X.2 (i + 1)), vr 0]) (MS I J cc ss) _
  refine ev_xsN (j := i + 2) (hC _ _ rfl) rfl (by omega) (by omega) rfl ?_
  show Ev X k_L_law (1680, [some (vr 1000000), some (vr 0), some (vr 135), some (vr 145), some (vi (i : Int)), v5, v6], [vi (X.2 (i + 2)), vi (X.2 (i + 1)), vr 0]) (MS I J cc ss) _
  refine ev_nL hC (fr' := (1681, [some (vr 1000000), some (vr 0), some (vr 135), some (vr 145), some (vi (i : Int)), v5, v6], [vr 145, vi (X.2 (i + 2)), vi (X.2 (i + 1)), vr 0])) (S' := MS I J cc ss) 1 rfl ?_
  refine ev_ct (hC _ _ rfl) rfl rfl ⟨Nat.le_of_ble_eq_true rfl, Nat.le_of_ble_eq_true rfl⟩ (H) (fun t9 c9 I1 J1 q1 => ?_)
  obtain ⟨hc, hr⟩ := q1
  show Ev X k_L_law (1684, [some (vr 1000000), some (vr 0), some (vr 135), some (vr 145), some (vi (i : Int)), v5, v6], [vi (t9 : Int)]) (MS I1 J1 (cc + c9) (ss + 6 * c9)) _
  refine ev_nL hC (fr' := (1691, [some (vr 1000000), some (vr 0), some (vr 135), some (vr 145), some (vi (i : Int)), some (vi (t9 : Int)), v6], [vi 1, vi (i : Int), vr 1000000, vr 135])) (S' := MS I1 J1 (cc + c9) (ss + 6 * c9)) 5 rfl ?_
  refine ev_add (z := (i : Int) + 1) (hC _ _ rfl) (by omega) (by omega) (by omega) ?_
  show Ev X k_L_law (1692, [some (vr 1000000), some (vr 0), some (vr 135), some (vr 145), some (vi (i : Int)), some (vi (t9 : Int)), v6], [vi ((i : Int) + 1), vr 1000000, vr 135]) (MS I1 J1 (cc + c9) (ss + 6 * c9)) _
  refine ev_xsN (j := i + 1) (hC _ _ rfl) rfl (by omega) (by omega) rfl ?_
  show Ev X k_L_law (1693, [some (vr 1000000), some (vr 0), some (vr 135), some (vr 145), some (vi (i : Int)), some (vi (t9 : Int)), v6], [vi (X.2 (i + 1)), vr 135]) (MS I1 J1 (cc + c9) (ss + 6 * c9)) _
  refine ev_nL hC (fr' := (1697, [some (vr 1000000), some (vr 0), some (vr 135), some (vr 145), some (vi (i : Int)), some (vi (t9 : Int)), v6], [vi 2, vi (i : Int), vr 1000000, vi (X.2 (i + 1)), vr 135])) (S' := MS I1 J1 (cc + c9) (ss + 6 * c9)) 3 rfl ?_
  refine ev_add (z := (i : Int) + 2) (hC _ _ rfl) (by omega) (by omega) (by omega) ?_
  show Ev X k_L_law (1698, [some (vr 1000000), some (vr 0), some (vr 135), some (vr 145), some (vi (i : Int)), some (vi (t9 : Int)), v6], [vi ((i : Int) + 2), vr 1000000, vi (X.2 (i + 1)), vr 135]) (MS I1 J1 (cc + c9) (ss + 6 * c9)) _
  refine ev_xsN (j := i + 2) (hC _ _ rfl) rfl (by omega) (by omega) rfl ?_
  show Ev X k_L_law (1699, [some (vr 1000000), some (vr 0), some (vr 135), some (vr 145), some (vi (i : Int)), some (vi (t9 : Int)), v6], [vi (X.2 (i + 2)), vi (X.2 (i + 1)), vr 135]) (MS I1 J1 (cc + c9) (ss + 6 * c9)) _
  refine ev_cz (hC _ _ rfl) rfl rfl ⟨Nat.le_of_ble_eq_true rfl, Nat.le_of_ble_eq_true rfl⟩ (hr) (fun z1 I2 J2 q2 => ?_)
  obtain ⟨h4, hz, hI⟩ := q2
  show Ev X k_L_law (1702, [some (vr 1000000), some (vr 0), some (vr 135), some (vr 145), some (vi (i : Int)), some (vi (t9 : Int)), v6], [vi z1]) (MS I2 J2 (cc + c9) (ss + 6 * c9)) _
  refine ev_nL hC (fr' := (1705, [some (vr 1000000), some (vr 0), some (vr 135), some (vr 145), some (vi (i : Int)), some (vi (t9 : Int)), some (vi z1)], [vr 135])) (S' := MS I2 J2 (cc + c9) (ss + 6 * c9)) 2 rfl ?_
  refine ev_cv (hC _ _ rfl) rfl rfl ⟨Nat.le_of_ble_eq_true rfl, Nat.le_of_ble_eq_true rfl⟩ (sp_thrown X _ _ _ _ h4) ?_
  show Ev X k_L_law (1708, [some (vr 1000000), some (vr 0), some (vr 135), some (vr 145), some (vi (i : Int)), some (vi (t9 : Int)), some (vi z1)], [vi (t9 : Int)]) (MS I2 J2 (cc + c9) (ss + 6 * c9)) _
  refine ev_nL hC (fr' := (1710, [some (vr 1000000), some (vr 0), some (vr 135), some (vr 145), some (vi (i : Int)), some (vi (t9 : Int)), some (vi z1)], [vi (t9 : Int), vi (t9 : Int)])) (S' := MS I2 J2 (cc + c9) (ss + 6 * c9)) 1 rfl ?_
  refine ev_ic (c := .eq) (off := 5) (hC _ _ rfl) (by decide) (fun (g1 : (t9 : Int) = (t9 : Int)) => ?_) (fun (g1 : ¬ ((t9 : Int) = (t9 : Int))) => False.elim (g1 rfl))
  show Ev X k_L_law (1715, [some (vr 1000000), some (vr 0), some (vr 135), some (vr 145), some (vi (i : Int)), some (vi (t9 : Int)), some (vi z1)], []) (MS I2 J2 (cc + c9) (ss + 6 * c9)) _
  refine ev_nL hC (fr' := (1717, [some (vr 1000000), some (vr 0), some (vr 135), some (vr 145), some (vi (i : Int)), some (vi (t9 : Int)), some (vi z1)], [vi (t9 : Int)])) (S' := MS I2 J2 (cc + c9) (ss + 6 * c9)) 1 rfl ?_
  refine ev_if (c := .ne) (off := 15) (hC _ _ rfl) (by decide) (fun (g2 : (t9 : Int) ≠ 0) => ?_) (fun (g2 : ¬ ((t9 : Int) ≠ 0)) => ?_)
  · show Ev X k_L_law (1732, [some (vr 1000000), some (vr 0), some (vr 135), some (vr 145), some (vi (i : Int)), some (vi (t9 : Int)), some (vi z1)], []) (MS I2 J2 (cc + c9) (ss + 6 * c9)) _
    refine ev_nL hC (fr' := (2672, [some (vr 1000000), some (vr 0), some (vr 135), some (vr 145), some (vi (i : Int)), some (vi (t9 : Int)), some (vi z1)], [])) (S' := MS I2 J2 (cc + c9) (ss + 6 * c9)) 1 rfl ?_
    exact K _ _ _ _ _ hc hI
  · show Ev X k_L_law (1720, [some (vr 1000000), some (vr 0), some (vr 135), some (vr 145), some (vi (i : Int)), some (vi (t9 : Int)), some (vi z1)], []) (MS I2 J2 (cc + c9) (ss + 6 * c9)) _
    refine ev_nL hC (fr' := (1722, [some (vr 1000000), some (vr 0), some (vr 135), some (vr 145), some (vi (i : Int)), some (vi (t9 : Int)), some (vi z1)], [vi 0, vr 145])) (S' := MS I2 J2 (cc + c9) (ss + 6 * c9)) 2 rfl ?_
    refine ev_laN (j := 0) (z := (J2 145 0)) (hC _ _ rfl) rfl (by omega) (by omega) (rfl) ?_
    show Ev X k_L_law (1723, [some (vr 1000000), some (vr 0), some (vr 135), some (vr 145), some (vi (i : Int)), some (vi (t9 : Int)), some (vi z1)], [vl (J2 145 0)]) (MS I2 J2 (cc + c9) (ss + 6 * c9)) _
    refine ev_nL hC (fr' := (1726, [some (vr 1000000), some (vr 0), some (vr 135), some (vr 145), some (vi (i : Int)), some (vi (t9 : Int)), some (vi z1)], [vl z1, vl (J2 145 0)])) (S' := MS I2 J2 (cc + c9) (ss + 6 * c9)) 2 rfl ?_
    refine ev_lc (c := .eq) (off := 5) (hC _ _ rfl) (hC _ _ rfl) (by decide) (fun (g3 : (J2 145 0) = z1) => ?_) (fun (g3 : ¬ ((J2 145 0) = z1)) => False.elim (g3 (hz (by omega)).1))
    show Ev X k_L_law (1732, [some (vr 1000000), some (vr 0), some (vr 135), some (vr 145), some (vi (i : Int)), some (vi (t9 : Int)), some (vi z1)], []) (MS I2 J2 (cc + c9) (ss + 6 * c9)) _
    refine ev_nL hC (fr' := (2672, [some (vr 1000000), some (vr 0), some (vr 135), some (vr 145), some (vi (i : Int)), some (vi (t9 : Int)), some (vi z1)], [])) (S' := MS I2 J2 (cc + c9) (ss + 6 * c9)) 1 rfl ?_
    exact K _ _ _ _ _ hc hI
set_option maxRecDepth 100000 in
noncomputable def cl_isInked : List (Nat × AI) := [(1735, .aload_n 1, 1, (0, 0, 0)), (1736, .aload_n 0, 1, (0, 0, 0)), (1737, .iload 4, 2, (0, 0, 0)), (1739, .iconst 1, 1, (0, 0, 0)), (1740, .iadd, 1, (0, 0, 0)), (1741, .iaload, 1, (0, 0, 0)), (1742, .aload_n 0, 1, (0, 0, 0)), (1743, .iload 4, 2, (0, 0, 0)), (1745, .iconst 2, 1, (0, 0, 0)), (1746, .iadd, 1, (0, 0, 0)), (1747, .iaload, 1, (0, 0, 0)), (1748, .aload_n 0, 1, (0, 0, 0)), (1749, .iload 4, 2, (0, 0, 0)), (1751, .iconst 3, 1, (0, 0, 0)), (1752, .iadd, 1, (0, 0, 0)), (1753, .iaload, 1, (0, 0, 0)), (1754, .aload_n 0, 1, (0, 0, 0)), (1755, .iload 4, 2, (0, 0, 0)), (1757, .iconst 4, 1, (0, 0, 0)), (1758, .iadd, 1, (0, 0, 0)), (1759, .iaload, 1, (0, 0, 0)), (1760, .aload_n 3, 1, (0, 0, 0)), (1761, .invokestatic 209, 3, (10, 269, 6)), (1764, .istore 5, 2, (0, 0, 0)), (1766, .aload_n 2, 1, (0, 0, 0)), (1767, .aload_n 0, 1, (0, 0, 0)), (1768, .iload 4, 2, (0, 0, 0)), (1770, .iconst 1, 1, (0, 0, 0)), (1771, .iadd, 1, (0, 0, 0)), (1772, .iaload, 1, (0, 0, 0)), (1773, .aload_n 0, 1, (0, 0, 0)), (1774, .iload 4, 2, (0, 0, 0)), (1776, .iconst 2, 1, (0, 0, 0)), (1777, .iadd, 1, (0, 0, 0)), (1778, .iaload, 1, (0, 0, 0)), (1779, .aload_n 0, 1, (0, 0, 0)), (1780, .iload 4, 2, (0, 0, 0)), (1782, .iconst 3, 1, (0, 0, 0)), (1783, .iadd, 1, (0, 0, 0)), (1784, .iaload, 1, (0, 0, 0)), (1785, .aload_n 0, 1, (0, 0, 0)), (1786, .iload 4, 2, (0, 0, 0)), (1788, .iconst 4, 1, (0, 0, 0)), (1789, .iadd, 1, (0, 0, 0)), (1790, .iaload, 1, (0, 0, 0)), (1791, .invokevirtual 211, 3, (1, 142, 4)), (1794, .istore 6, 2, (0, 0, 0)), (1796, .aload_n 2, 1, (0, 0, 0)), (1797, .invokevirtual 133, 3, (1, 56, 0)), (1800, .iload 5, 2, (0, 0, 0)), (1802, .if_icmp .eq 5, 3, (0, 0, 0)), (1805, .iconst 0, 1, (0, 0, 0)), (1806, .ireturn, 1, (1, 0, 0)), (1807, .iload 5, 2, (0, 0, 0)), (1809, .ifCond .ne 22, 3, (0, 0, 0)), (1812, .aload_n 3, 1, (0, 0, 0)), (1813, .iconst 0, 1, (0, 0, 0)), (1814, .laload, 1, (0, 0, 0)), (1815, .iload 6, 2, (0, 0, 0)), (1817, .ifCond .eq 7, 3, (0, 0, 0)), (1820, .lconst 1, 1, (0, 0, 0)), (1821, .goto 4, 3, (0, 0, 0)), (1824, .lconst 0, 1, (0, 0, 0)), (1825, .lcmp, 1, (0, 0, 0)), (1826, .ifCond .eq 5, 3, (0, 0, 0)), (1829, .iconst 0, 1, (0, 0, 0)), (1830, .ireturn, 1, (1, 0, 0)), (1831, .goto 841, 3, (0, 0, 0))]
set_option maxRecDepth 100000 in
theorem ck_isInked : lkS cl_isInked k_L_law := lkS_of (by decide +kernel)
theorem lw_isInked (X : AX) (I J : Nat → Nat → Int) (cc ss : Nat) {Q : (Option AV ⊕ Nat) → AS → Prop} (i : Nat) (hi : i + 6 ≤ X.1) (h72 : X.1 ≤ 3072) (v5 v6 : Option AV) (H : Two X k_L_isInked k_X9_isInked (0, [some (vr 0), some (vi (X.2 (i + 1))), some (vi (X.2 (i + 2))), some (vi (X.2 (i + 3))), some (vi (X.2 (i + 4))), some (vr 145), none], []) (0, [some (vr 135), some (vi (X.2 (i + 1))), some (vi (X.2 (i + 2))), some (vi (X.2 (i + 3))), some (vi (X.2 (i + 4)))], []) (fun r => r = 0 ∨ r = 1) I J cc ss) (K : ∀ I' J' c v5 v6, c ≤ 1 → INV I' J' → Ev X k_L_law (2672, [some (vr 1000000), some (vr 0), some (vr 135), some (vr 145), some (vi (i : Int)), v5, v6], []) (MS I' J' (cc + c) (ss + 6 * c)) Q) : Ev X k_L_law (1735, [some (vr 1000000), some (vr 0), some (vr 135), some (vr 145), some (vi (i : Int)), v5, v6], []) (MS I J cc ss) (Q) := by
  have hC := ck_isInked
  refine ev_nL hC (fr' := (1740, [some (vr 1000000), some (vr 0), some (vr 135), some (vr 145), some (vi (i : Int)), v5, v6], [vi 1, vi (i : Int), vr 1000000, vr 0])) (S' := MS I J cc ss) 4 rfl ?_
  refine ev_add (z := (i : Int) + 1) (hC _ _ rfl) (by omega) (by omega) (by omega) ?_
  show Ev X k_L_law (1741, [some (vr 1000000), some (vr 0), some (vr 135), some (vr 145), some (vi (i : Int)), v5, v6], [vi ((i : Int) + 1), vr 1000000, vr 0]) (MS I J cc ss) _
  refine ev_xsN (j := i + 1) (hC _ _ rfl) rfl (by omega) (by omega) rfl ?_
  show Ev X k_L_law (1742, [some (vr 1000000), some (vr 0), some (vr 135), some (vr 145), some (vi (i : Int)), v5, v6], [vi (X.2 (i + 1)), vr 0]) (MS I J cc ss) _
  refine ev_nL hC (fr' := (1746, [some (vr 1000000), some (vr 0), some (vr 135), some (vr 145), some (vi (i : Int)), v5, v6], [vi 2, vi (i : Int), vr 1000000, vi (X.2 (i + 1)), vr 0])) (S' := MS I J cc ss) 3 rfl ?_
  refine ev_add (z := (i : Int) + 2) (hC _ _ rfl) (by omega) (by omega) (by omega) ?_
  show Ev X k_L_law (1747, [some (vr 1000000), some (vr 0), some (vr 135), some (vr 145), some (vi (i : Int)), v5, v6], [vi ((i : Int) + 2), vr 1000000, vi (X.2 (i + 1)), vr 0]) (MS I J cc ss) _
  refine ev_xsN (j := i + 2) (hC _ _ rfl) rfl (by omega) (by omega) rfl ?_
  show Ev X k_L_law (1748, [some (vr 1000000), some (vr 0), some (vr 135), some (vr 145), some (vi (i : Int)), v5, v6], [vi (X.2 (i + 2)), vi (X.2 (i + 1)), vr 0]) (MS I J cc ss) _
  refine ev_nL hC (fr' := (1752, [some (vr 1000000), some (vr 0), some (vr 135), some (vr 145), some (vi (i : Int)), v5, v6], [vi 3, vi (i : Int), vr 1000000, vi (X.2 (i + 2)), vi (X.2 (i + 1)), vr 0])) (S' := MS I J cc ss) 3 rfl ?_
  refine ev_add (z := (i : Int) + 3) (hC _ _ rfl) (by omega) (by omega) (by omega) ?_
  show Ev X k_L_law (1753, [some (vr 1000000), some (vr 0), some (vr 135), some (vr 145), some (vi (i : Int)), v5, v6], [vi ((i : Int) + 3), vr 1000000, vi (X.2 (i + 2)), vi (X.2 (i + 1)), vr 0]) (MS I J cc ss) _
  refine ev_xsN (j := i + 3) (hC _ _ rfl) rfl (by omega) (by omega) rfl ?_
  show Ev X k_L_law (1754, [some (vr 1000000), some (vr 0), some (vr 135), some (vr 145), some (vi (i : Int)), v5, v6], [vi (X.2 (i + 3)), vi (X.2 (i + 2)), vi (X.2 (i + 1)), vr 0]) (MS I J cc ss) _
  refine ev_nL hC (fr' := (1758, [some (vr 1000000), some (vr 0), some (vr 135), some (vr 145), some (vi (i : Int)), v5, v6], [vi 4, vi (i : Int), vr 1000000, vi (X.2 (i + 3)), vi (X.2 (i + 2)), vi (X.2 (i + 1)), vr 0])) (S' := MS I J cc ss) 3 rfl ?_
  refine ev_add (z := (i : Int) + 4) (hC _ _ rfl) (by omega) (by omega) (by omega) ?_
  show Ev X k_L_law (1759, [some (vr 1000000), some (vr 0), some (vr 135), some (vr 145), some (vi (i : Int)), v5, v6], [vi ((i : Int) + 4), vr 1000000, vi (X.2 (i + 3)), vi (X.2 (i + 2)), vi (X.2 (i + 1)), vr 0]) (MS I J cc ss) _
  refine ev_xsN (j := i + 4) (hC _ _ rfl) rfl (by omega) (by omega) rfl ?_
  show Ev X k_L_law (1760, [some (vr 1000000), some (vr 0), some (vr 135), some (vr 145), some (vi (i : Int)), v5, v6], [vi (X.2 (i + 4)), vi (X.2 (i + 3)), vi (X.2 (i + 2)), vi (X.2 (i + 1)), vr 0]) (MS I J cc ss) _
  refine ev_nL hC (fr' := (1761, [some (vr 1000000), some (vr 0), some (vr 135), some (vr 145), some (vi (i : Int)), v5, v6], [vr 145, vi (X.2 (i + 4)), vi (X.2 (i + 3)), vi (X.2 (i + 2)), vi (X.2 (i + 1)), vr 0])) (S' := MS I J cc ss) 1 rfl ?_
  refine ev_ct (hC _ _ rfl) rfl rfl ⟨Nat.le_of_ble_eq_true rfl, Nat.le_of_ble_eq_true rfl⟩ (H) (fun t9 c9 I1 J1 q1 => ?_)
  obtain ⟨hc, hr⟩ := q1
  show Ev X k_L_law (1764, [some (vr 1000000), some (vr 0), some (vr 135), some (vr 145), some (vi (i : Int)), v5, v6], [vi (t9 : Int)]) (MS I1 J1 (cc + c9) (ss + 6 * c9)) _
  refine ev_nL hC (fr' := (1771, [some (vr 1000000), some (vr 0), some (vr 135), some (vr 145), some (vi (i : Int)), some (vi (t9 : Int)), v6], [vi 1, vi (i : Int), vr 1000000, vr 135])) (S' := MS I1 J1 (cc + c9) (ss + 6 * c9)) 5 rfl ?_
  refine ev_add (z := (i : Int) + 1) (hC _ _ rfl) (by omega) (by omega) (by omega) ?_
  show Ev X k_L_law (1772, [some (vr 1000000), some (vr 0), some (vr 135), some (vr 145), some (vi (i : Int)), some (vi (t9 : Int)), v6], [vi ((i : Int) + 1), vr 1000000, vr 135]) (MS I1 J1 (cc + c9) (ss + 6 * c9)) _
  refine ev_xsN (j := i + 1) (hC _ _ rfl) rfl (by omega) (by omega) rfl ?_
  show Ev X k_L_law (1773, [some (vr 1000000), some (vr 0), some (vr 135), some (vr 145), some (vi (i : Int)), some (vi (t9 : Int)), v6], [vi (X.2 (i + 1)), vr 135]) (MS I1 J1 (cc + c9) (ss + 6 * c9)) _
  refine ev_nL hC (fr' := (1777, [some (vr 1000000), some (vr 0), some (vr 135), some (vr 145), some (vi (i : Int)), some (vi (t9 : Int)), v6], [vi 2, vi (i : Int), vr 1000000, vi (X.2 (i + 1)), vr 135])) (S' := MS I1 J1 (cc + c9) (ss + 6 * c9)) 3 rfl ?_
  refine ev_add (z := (i : Int) + 2) (hC _ _ rfl) (by omega) (by omega) (by omega) ?_
  show Ev X k_L_law (1778, [some (vr 1000000), some (vr 0), some (vr 135), some (vr 145), some (vi (i : Int)), some (vi (t9 : Int)), v6], [vi ((i : Int) + 2), vr 1000000, vi (X.2 (i + 1)), vr 135]) (MS I1 J1 (cc + c9) (ss + 6 * c9)) _
  refine ev_xsN (j := i + 2) (hC _ _ rfl) rfl (by omega) (by omega) rfl ?_
  show Ev X k_L_law (1779, [some (vr 1000000), some (vr 0), some (vr 135), some (vr 145), some (vi (i : Int)), some (vi (t9 : Int)), v6], [vi (X.2 (i + 2)), vi (X.2 (i + 1)), vr 135]) (MS I1 J1 (cc + c9) (ss + 6 * c9)) _
  refine ev_nL hC (fr' := (1783, [some (vr 1000000), some (vr 0), some (vr 135), some (vr 145), some (vi (i : Int)), some (vi (t9 : Int)), v6], [vi 3, vi (i : Int), vr 1000000, vi (X.2 (i + 2)), vi (X.2 (i + 1)), vr 135])) (S' := MS I1 J1 (cc + c9) (ss + 6 * c9)) 3 rfl ?_
  refine ev_add (z := (i : Int) + 3) (hC _ _ rfl) (by omega) (by omega) (by omega) ?_
  show Ev X k_L_law (1784, [some (vr 1000000), some (vr 0), some (vr 135), some (vr 145), some (vi (i : Int)), some (vi (t9 : Int)), v6], [vi ((i : Int) + 3), vr 1000000, vi (X.2 (i + 2)), vi (X.2 (i + 1)), vr 135]) (MS I1 J1 (cc + c9) (ss + 6 * c9)) _
  refine ev_xsN (j := i + 3) (hC _ _ rfl) rfl (by omega) (by omega) rfl ?_
  show Ev X k_L_law (1785, [some (vr 1000000), some (vr 0), some (vr 135), some (vr 145), some (vi (i : Int)), some (vi (t9 : Int)), v6], [vi (X.2 (i + 3)), vi (X.2 (i + 2)), vi (X.2 (i + 1)), vr 135]) (MS I1 J1 (cc + c9) (ss + 6 * c9)) _
  refine ev_nL hC (fr' := (1789, [some (vr 1000000), some (vr 0), some (vr 135), some (vr 145), some (vi (i : Int)), some (vi (t9 : Int)), v6], [vi 4, vi (i : Int), vr 1000000, vi (X.2 (i + 3)), vi (X.2 (i + 2)), vi (X.2 (i + 1)), vr 135])) (S' := MS I1 J1 (cc + c9) (ss + 6 * c9)) 3 rfl ?_
  refine ev_add (z := (i : Int) + 4) (hC _ _ rfl) (by omega) (by omega) (by omega) ?_
  show Ev X k_L_law (1790, [some (vr 1000000), some (vr 0), some (vr 135), some (vr 145), some (vi (i : Int)), some (vi (t9 : Int)), v6], [vi ((i : Int) + 4), vr 1000000, vi (X.2 (i + 3)), vi (X.2 (i + 2)), vi (X.2 (i + 1)), vr 135]) (MS I1 J1 (cc + c9) (ss + 6 * c9)) _
  refine ev_xsN (j := i + 4) (hC _ _ rfl) rfl (by omega) (by omega) rfl ?_
  show Ev X k_L_law (1791, [some (vr 1000000), some (vr 0), some (vr 135), some (vr 145), some (vi (i : Int)), some (vi (t9 : Int)), v6], [vi (X.2 (i + 4)), vi (X.2 (i + 3)), vi (X.2 (i + 2)), vi (X.2 (i + 1)), vr 135]) (MS I1 J1 (cc + c9) (ss + 6 * c9)) _
  refine ev_cz (hC _ _ rfl) rfl rfl ⟨Nat.le_of_ble_eq_true rfl, Nat.le_of_ble_eq_true rfl⟩ (hr) (fun z1 I2 J2 q2 => ?_)
  obtain ⟨h4, hz, hI⟩ := q2
  show Ev X k_L_law (1794, [some (vr 1000000), some (vr 0), some (vr 135), some (vr 145), some (vi (i : Int)), some (vi (t9 : Int)), v6], [vi z1]) (MS I2 J2 (cc + c9) (ss + 6 * c9)) _
  have hz : t9 = 0 → J2 145 0 = z1 ∧ (z1 = 0 ∨ z1 = 1) := hz
  refine ev_nL hC (fr' := (1797, [some (vr 1000000), some (vr 0), some (vr 135), some (vr 145), some (vi (i : Int)), some (vi (t9 : Int)), some (vi z1)], [vr 135])) (S' := MS I2 J2 (cc + c9) (ss + 6 * c9)) 2 rfl ?_
  refine ev_cv (hC _ _ rfl) rfl rfl ⟨Nat.le_of_ble_eq_true rfl, Nat.le_of_ble_eq_true rfl⟩ (sp_thrown X _ _ _ _ h4) ?_
  show Ev X k_L_law (1800, [some (vr 1000000), some (vr 0), some (vr 135), some (vr 145), some (vi (i : Int)), some (vi (t9 : Int)), some (vi z1)], [vi (t9 : Int)]) (MS I2 J2 (cc + c9) (ss + 6 * c9)) _
  refine ev_nL hC (fr' := (1802, [some (vr 1000000), some (vr 0), some (vr 135), some (vr 145), some (vi (i : Int)), some (vi (t9 : Int)), some (vi z1)], [vi (t9 : Int), vi (t9 : Int)])) (S' := MS I2 J2 (cc + c9) (ss + 6 * c9)) 1 rfl ?_
  refine ev_ic (c := .eq) (off := 5) (hC _ _ rfl) (by decide) (fun (g1 : (t9 : Int) = (t9 : Int)) => ?_) (fun (g1 : ¬ ((t9 : Int) = (t9 : Int))) => False.elim (g1 rfl))
  show Ev X k_L_law (1807, [some (vr 1000000), some (vr 0), some (vr 135), some (vr 145), some (vi (i : Int)), some (vi (t9 : Int)), some (vi z1)], []) (MS I2 J2 (cc + c9) (ss + 6 * c9)) _
  refine ev_nL hC (fr' := (1809, [some (vr 1000000), some (vr 0), some (vr 135), some (vr 145), some (vi (i : Int)), some (vi (t9 : Int)), some (vi z1)], [vi (t9 : Int)])) (S' := MS I2 J2 (cc + c9) (ss + 6 * c9)) 1 rfl ?_
  refine ev_if (c := .ne) (off := 22) (hC _ _ rfl) (by decide) (fun (g2 : (t9 : Int) ≠ 0) => ?_) (fun (g2 : ¬ ((t9 : Int) ≠ 0)) => ?_)
  · show Ev X k_L_law (1831, [some (vr 1000000), some (vr 0), some (vr 135), some (vr 145), some (vi (i : Int)), some (vi (t9 : Int)), some (vi z1)], []) (MS I2 J2 (cc + c9) (ss + 6 * c9)) _
    refine ev_nL hC (fr' := (2672, [some (vr 1000000), some (vr 0), some (vr 135), some (vr 145), some (vi (i : Int)), some (vi (t9 : Int)), some (vi z1)], [])) (S' := MS I2 J2 (cc + c9) (ss + 6 * c9)) 1 rfl ?_
    exact K _ _ _ _ _ hc hI
  · show Ev X k_L_law (1812, [some (vr 1000000), some (vr 0), some (vr 135), some (vr 145), some (vi (i : Int)), some (vi (t9 : Int)), some (vi z1)], []) (MS I2 J2 (cc + c9) (ss + 6 * c9)) _
    refine ev_nL hC (fr' := (1814, [some (vr 1000000), some (vr 0), some (vr 135), some (vr 145), some (vi (i : Int)), some (vi (t9 : Int)), some (vi z1)], [vi 0, vr 145])) (S' := MS I2 J2 (cc + c9) (ss + 6 * c9)) 2 rfl ?_
    refine ev_laN (j := 0) (z := (J2 145 0)) (hC _ _ rfl) rfl (by omega) (by omega) (rfl) ?_
    show Ev X k_L_law (1815, [some (vr 1000000), some (vr 0), some (vr 135), some (vr 145), some (vi (i : Int)), some (vi (t9 : Int)), some (vi z1)], [vl (J2 145 0)]) (MS I2 J2 (cc + c9) (ss + 6 * c9)) _
    refine ev_nL hC (fr' := (1817, [some (vr 1000000), some (vr 0), some (vr 135), some (vr 145), some (vi (i : Int)), some (vi (t9 : Int)), some (vi z1)], [vi z1, vl (J2 145 0)])) (S' := MS I2 J2 (cc + c9) (ss + 6 * c9)) 1 rfl ?_
    refine ev_if (c := .eq) (off := 7) (hC _ _ rfl) (by decide) (fun (g3 : z1 = 0) => ?_) (fun (g3 : ¬ (z1 = 0)) => ?_)
    · show Ev X k_L_law (1824, [some (vr 1000000), some (vr 0), some (vr 135), some (vr 145), some (vi (i : Int)), some (vi (t9 : Int)), some (vi z1)], [vl (J2 145 0)]) (MS I2 J2 (cc + c9) (ss + 6 * c9)) _
      refine ev_nL hC (fr' := (1825, [some (vr 1000000), some (vr 0), some (vr 135), some (vr 145), some (vi (i : Int)), some (vi (t9 : Int)), some (vi z1)], [vl 0, vl (J2 145 0)])) (S' := MS I2 J2 (cc + c9) (ss + 6 * c9)) 1 rfl ?_
      refine ev_lc (c := .eq) (off := 5) (hC _ _ rfl) (hC _ _ rfl) (by decide) (fun (g4 : (J2 145 0) = 0) => ?_) (fun (g4 : ¬ ((J2 145 0) = 0)) => False.elim (by have q9 := hz (by omega); omega))
      show Ev X k_L_law (1831, [some (vr 1000000), some (vr 0), some (vr 135), some (vr 145), some (vi (i : Int)), some (vi (t9 : Int)), some (vi z1)], []) (MS I2 J2 (cc + c9) (ss + 6 * c9)) _
      refine ev_nL hC (fr' := (2672, [some (vr 1000000), some (vr 0), some (vr 135), some (vr 145), some (vi (i : Int)), some (vi (t9 : Int)), some (vi z1)], [])) (S' := MS I2 J2 (cc + c9) (ss + 6 * c9)) 1 rfl ?_
      exact K _ _ _ _ _ hc hI
    · show Ev X k_L_law (1820, [some (vr 1000000), some (vr 0), some (vr 135), some (vr 145), some (vi (i : Int)), some (vi (t9 : Int)), some (vi z1)], [vl (J2 145 0)]) (MS I2 J2 (cc + c9) (ss + 6 * c9)) _
      refine ev_nL hC (fr' := (1825, [some (vr 1000000), some (vr 0), some (vr 135), some (vr 145), some (vi (i : Int)), some (vi (t9 : Int)), some (vi z1)], [vl 1, vl (J2 145 0)])) (S' := MS I2 J2 (cc + c9) (ss + 6 * c9)) 2 rfl ?_
      refine ev_lc (c := .eq) (off := 5) (hC _ _ rfl) (hC _ _ rfl) (by decide) (fun (g5 : (J2 145 0) = 1) => ?_) (fun (g5 : ¬ ((J2 145 0) = 1)) => False.elim (by have q9 := hz (by omega); omega))
      show Ev X k_L_law (1831, [some (vr 1000000), some (vr 0), some (vr 135), some (vr 145), some (vi (i : Int)), some (vi (t9 : Int)), some (vi z1)], []) (MS I2 J2 (cc + c9) (ss + 6 * c9)) _
      refine ev_nL hC (fr' := (2672, [some (vr 1000000), some (vr 0), some (vr 135), some (vr 145), some (vi (i : Int)), some (vi (t9 : Int)), some (vi z1)], [])) (S' := MS I2 J2 (cc + c9) (ss + 6 * c9)) 1 rfl ?_
      exact K _ _ _ _ _ hc hI
set_option maxRecDepth 100000 in
noncomputable def cl_measure : List (Nat × AI) := [(1834, .aload_n 1, 1, (0, 0, 0)), (1835, .aload_n 0, 1, (0, 0, 0)), (1836, .iload 4, 2, (0, 0, 0)), (1838, .iconst 1, 1, (0, 0, 0)), (1839, .iadd, 1, (0, 0, 0)), (1840, .iaload, 1, (0, 0, 0)), (1841, .aload_n 0, 1, (0, 0, 0)), (1842, .iload 4, 2, (0, 0, 0)), (1844, .iconst 2, 1, (0, 0, 0)), (1845, .iadd, 1, (0, 0, 0)), (1846, .iaload, 1, (0, 0, 0)), (1847, .aload_n 0, 1, (0, 0, 0)), (1848, .iload 4, 2, (0, 0, 0)), (1850, .iconst 3, 1, (0, 0, 0)), (1851, .iadd, 1, (0, 0, 0)), (1852, .iaload, 1, (0, 0, 0)), (1853, .aload_n 3, 1, (0, 0, 0)), (1854, .invokestatic 212, 3, (10, 270, 5)), (1857, .istore 5, 2, (0, 0, 0)), (1859, .aload_n 2, 1, (0, 0, 0)), (1860, .aload_n 0, 1, (0, 0, 0)), (1861, .iload 4, 2, (0, 0, 0)), (1863, .iconst 1, 1, (0, 0, 0)), (1864, .iadd, 1, (0, 0, 0)), (1865, .iaload, 1, (0, 0, 0)), (1866, .aload_n 0, 1, (0, 0, 0)), (1867, .iload 4, 2, (0, 0, 0)), (1869, .iconst 2, 1, (0, 0, 0)), (1870, .iadd, 1, (0, 0, 0)), (1871, .iaload, 1, (0, 0, 0)), (1872, .aload_n 0, 1, (0, 0, 0)), (1873, .iload 4, 2, (0, 0, 0)), (1875, .iconst 3, 1, (0, 0, 0)), (1876, .iadd, 1, (0, 0, 0)), (1877, .iaload, 1, (0, 0, 0)), (1878, .invokevirtual 214, 3, (1, 147, 3)), (1881, .istore 6, 2, (0, 0, 0)), (1883, .aload_n 2, 1, (0, 0, 0)), (1884, .invokevirtual 133, 3, (1, 56, 0)), (1887, .iload 5, 2, (0, 0, 0)), (1889, .if_icmp .eq 5, 3, (0, 0, 0)), (1892, .iconst 0, 1, (0, 0, 0)), (1893, .ireturn, 1, (1, 0, 0)), (1894, .iload 5, 2, (0, 0, 0)), (1896, .ifCond .ne 15, 3, (0, 0, 0)), (1899, .aload_n 3, 1, (0, 0, 0)), (1900, .iconst 0, 1, (0, 0, 0)), (1901, .laload, 1, (0, 0, 0)), (1902, .iload 6, 2, (0, 0, 0)), (1904, .i2l, 1, (0, 0, 0)), (1905, .lcmp, 1, (0, 0, 0)), (1906, .ifCond .eq 5, 3, (0, 0, 0)), (1909, .iconst 0, 1, (0, 0, 0)), (1910, .ireturn, 1, (1, 0, 0)), (1911, .goto 761, 3, (0, 0, 0))]
set_option maxRecDepth 100000 in
theorem ck_measure : lkS cl_measure k_L_law := lkS_of (by decide +kernel)
theorem lw_measure (X : AX) (I J : Nat → Nat → Int) (cc ss : Nat) {Q : (Option AV ⊕ Nat) → AS → Prop} (i : Nat) (hi : i + 6 ≤ X.1) (h72 : X.1 ≤ 3072) (v5 v6 : Option AV) (H : Two X k_L_measure k_X9_measure (0, [some (vr 0), some (vi (X.2 (i + 1))), some (vi (X.2 (i + 2))), some (vi (X.2 (i + 3))), some (vr 145), none], []) (0, [some (vr 135), some (vi (X.2 (i + 1))), some (vi (X.2 (i + 2))), some (vi (X.2 (i + 3)))], []) (fun _ => True) I J cc ss) (K : ∀ I' J' c v5 v6, c ≤ 1 → INV I' J' → Ev X k_L_law (2672, [some (vr 1000000), some (vr 0), some (vr 135), some (vr 145), some (vi (i : Int)), v5, v6], []) (MS I' J' (cc + c) (ss + 6 * c)) Q) : Ev X k_L_law (1834, [some (vr 1000000), some (vr 0), some (vr 135), some (vr 145), some (vi (i : Int)), v5, v6], []) (MS I J cc ss) (Q) := by
  have hC := ck_measure
  refine ev_nL hC (fr' := (1839, [some (vr 1000000), some (vr 0), some (vr 135), some (vr 145), some (vi (i : Int)), v5, v6], [vi 1, vi (i : Int), vr 1000000, vr 0])) (S' := MS I J cc ss) 4 rfl ?_
  refine ev_add (z := (i : Int) + 1) (hC _ _ rfl) (by omega) (by omega) (by omega) ?_
  show Ev X k_L_law (1840, [some (vr 1000000), some (vr 0), some (vr 135), some (vr 145), some (vi (i : Int)), v5, v6], [vi ((i : Int) + 1), vr 1000000, vr 0]) (MS I J cc ss) _
  refine ev_xsN (j := i + 1) (hC _ _ rfl) rfl (by omega) (by omega) rfl ?_
  show Ev X k_L_law (1841, [some (vr 1000000), some (vr 0), some (vr 135), some (vr 145), some (vi (i : Int)), v5, v6], [vi (X.2 (i + 1)), vr 0]) (MS I J cc ss) _
  refine ev_nL hC (fr' := (1845, [some (vr 1000000), some (vr 0), some (vr 135), some (vr 145), some (vi (i : Int)), v5, v6], [vi 2, vi (i : Int), vr 1000000, vi (X.2 (i + 1)), vr 0])) (S' := MS I J cc ss) 3 rfl ?_
  refine ev_add (z := (i : Int) + 2) (hC _ _ rfl) (by omega) (by omega) (by omega) ?_
  show Ev X k_L_law (1846, [some (vr 1000000), some (vr 0), some (vr 135), some (vr 145), some (vi (i : Int)), v5, v6], [vi ((i : Int) + 2), vr 1000000, vi (X.2 (i + 1)), vr 0]) (MS I J cc ss) _
  refine ev_xsN (j := i + 2) (hC _ _ rfl) rfl (by omega) (by omega) rfl ?_
  show Ev X k_L_law (1847, [some (vr 1000000), some (vr 0), some (vr 135), some (vr 145), some (vi (i : Int)), v5, v6], [vi (X.2 (i + 2)), vi (X.2 (i + 1)), vr 0]) (MS I J cc ss) _
  refine ev_nL hC (fr' := (1851, [some (vr 1000000), some (vr 0), some (vr 135), some (vr 145), some (vi (i : Int)), v5, v6], [vi 3, vi (i : Int), vr 1000000, vi (X.2 (i + 2)), vi (X.2 (i + 1)), vr 0])) (S' := MS I J cc ss) 3 rfl ?_
  refine ev_add (z := (i : Int) + 3) (hC _ _ rfl) (by omega) (by omega) (by omega) ?_
  show Ev X k_L_law (1852, [some (vr 1000000), some (vr 0), some (vr 135), some (vr 145), some (vi (i : Int)), v5, v6], [vi ((i : Int) + 3), vr 1000000, vi (X.2 (i + 2)), vi (X.2 (i + 1)), vr 0]) (MS I J cc ss) _
  refine ev_xsN (j := i + 3) (hC _ _ rfl) rfl (by omega) (by omega) rfl ?_
  show Ev X k_L_law (1853, [some (vr 1000000), some (vr 0), some (vr 135), some (vr 145), some (vi (i : Int)), v5, v6], [vi (X.2 (i + 3)), vi (X.2 (i + 2)), vi (X.2 (i + 1)), vr 0]) (MS I J cc ss) _
  refine ev_nL hC (fr' := (1854, [some (vr 1000000), some (vr 0), some (vr 135), some (vr 145), some (vi (i : Int)), v5, v6], [vr 145, vi (X.2 (i + 3)), vi (X.2 (i + 2)), vi (X.2 (i + 1)), vr 0])) (S' := MS I J cc ss) 1 rfl ?_
  refine ev_ct (hC _ _ rfl) rfl rfl ⟨Nat.le_of_ble_eq_true rfl, Nat.le_of_ble_eq_true rfl⟩ (H) (fun t9 c9 I1 J1 q1 => ?_)
  obtain ⟨hc, hr⟩ := q1
  show Ev X k_L_law (1857, [some (vr 1000000), some (vr 0), some (vr 135), some (vr 145), some (vi (i : Int)), v5, v6], [vi (t9 : Int)]) (MS I1 J1 (cc + c9) (ss + 6 * c9)) _
  refine ev_nL hC (fr' := (1864, [some (vr 1000000), some (vr 0), some (vr 135), some (vr 145), some (vi (i : Int)), some (vi (t9 : Int)), v6], [vi 1, vi (i : Int), vr 1000000, vr 135])) (S' := MS I1 J1 (cc + c9) (ss + 6 * c9)) 5 rfl ?_
  refine ev_add (z := (i : Int) + 1) (hC _ _ rfl) (by omega) (by omega) (by omega) ?_
  show Ev X k_L_law (1865, [some (vr 1000000), some (vr 0), some (vr 135), some (vr 145), some (vi (i : Int)), some (vi (t9 : Int)), v6], [vi ((i : Int) + 1), vr 1000000, vr 135]) (MS I1 J1 (cc + c9) (ss + 6 * c9)) _
  refine ev_xsN (j := i + 1) (hC _ _ rfl) rfl (by omega) (by omega) rfl ?_
  show Ev X k_L_law (1866, [some (vr 1000000), some (vr 0), some (vr 135), some (vr 145), some (vi (i : Int)), some (vi (t9 : Int)), v6], [vi (X.2 (i + 1)), vr 135]) (MS I1 J1 (cc + c9) (ss + 6 * c9)) _
  refine ev_nL hC (fr' := (1870, [some (vr 1000000), some (vr 0), some (vr 135), some (vr 145), some (vi (i : Int)), some (vi (t9 : Int)), v6], [vi 2, vi (i : Int), vr 1000000, vi (X.2 (i + 1)), vr 135])) (S' := MS I1 J1 (cc + c9) (ss + 6 * c9)) 3 rfl ?_
  refine ev_add (z := (i : Int) + 2) (hC _ _ rfl) (by omega) (by omega) (by omega) ?_
  show Ev X k_L_law (1871, [some (vr 1000000), some (vr 0), some (vr 135), some (vr 145), some (vi (i : Int)), some (vi (t9 : Int)), v6], [vi ((i : Int) + 2), vr 1000000, vi (X.2 (i + 1)), vr 135]) (MS I1 J1 (cc + c9) (ss + 6 * c9)) _
  refine ev_xsN (j := i + 2) (hC _ _ rfl) rfl (by omega) (by omega) rfl ?_
  show Ev X k_L_law (1872, [some (vr 1000000), some (vr 0), some (vr 135), some (vr 145), some (vi (i : Int)), some (vi (t9 : Int)), v6], [vi (X.2 (i + 2)), vi (X.2 (i + 1)), vr 135]) (MS I1 J1 (cc + c9) (ss + 6 * c9)) _
  refine ev_nL hC (fr' := (1876, [some (vr 1000000), some (vr 0), some (vr 135), some (vr 145), some (vi (i : Int)), some (vi (t9 : Int)), v6], [vi 3, vi (i : Int), vr 1000000, vi (X.2 (i + 2)), vi (X.2 (i + 1)), vr 135])) (S' := MS I1 J1 (cc + c9) (ss + 6 * c9)) 3 rfl ?_
  refine ev_add (z := (i : Int) + 3) (hC _ _ rfl) (by omega) (by omega) (by omega) ?_
  show Ev X k_L_law (1877, [some (vr 1000000), some (vr 0), some (vr 135), some (vr 145), some (vi (i : Int)), some (vi (t9 : Int)), v6], [vi ((i : Int) + 3), vr 1000000, vi (X.2 (i + 2)), vi (X.2 (i + 1)), vr 135]) (MS I1 J1 (cc + c9) (ss + 6 * c9)) _
  refine ev_xsN (j := i + 3) (hC _ _ rfl) rfl (by omega) (by omega) rfl ?_
  show Ev X k_L_law (1878, [some (vr 1000000), some (vr 0), some (vr 135), some (vr 145), some (vi (i : Int)), some (vi (t9 : Int)), v6], [vi (X.2 (i + 3)), vi (X.2 (i + 2)), vi (X.2 (i + 1)), vr 135]) (MS I1 J1 (cc + c9) (ss + 6 * c9)) _
  refine ev_cz (hC _ _ rfl) rfl rfl ⟨Nat.le_of_ble_eq_true rfl, Nat.le_of_ble_eq_true rfl⟩ (hr) (fun z1 I2 J2 q2 => ?_)
  obtain ⟨h4, hz, hI⟩ := q2
  show Ev X k_L_law (1881, [some (vr 1000000), some (vr 0), some (vr 135), some (vr 145), some (vi (i : Int)), some (vi (t9 : Int)), v6], [vi z1]) (MS I2 J2 (cc + c9) (ss + 6 * c9)) _
  refine ev_nL hC (fr' := (1884, [some (vr 1000000), some (vr 0), some (vr 135), some (vr 145), some (vi (i : Int)), some (vi (t9 : Int)), some (vi z1)], [vr 135])) (S' := MS I2 J2 (cc + c9) (ss + 6 * c9)) 2 rfl ?_
  refine ev_cv (hC _ _ rfl) rfl rfl ⟨Nat.le_of_ble_eq_true rfl, Nat.le_of_ble_eq_true rfl⟩ (sp_thrown X _ _ _ _ h4) ?_
  show Ev X k_L_law (1887, [some (vr 1000000), some (vr 0), some (vr 135), some (vr 145), some (vi (i : Int)), some (vi (t9 : Int)), some (vi z1)], [vi (t9 : Int)]) (MS I2 J2 (cc + c9) (ss + 6 * c9)) _
  refine ev_nL hC (fr' := (1889, [some (vr 1000000), some (vr 0), some (vr 135), some (vr 145), some (vi (i : Int)), some (vi (t9 : Int)), some (vi z1)], [vi (t9 : Int), vi (t9 : Int)])) (S' := MS I2 J2 (cc + c9) (ss + 6 * c9)) 1 rfl ?_
  refine ev_ic (c := .eq) (off := 5) (hC _ _ rfl) (by decide) (fun (g1 : (t9 : Int) = (t9 : Int)) => ?_) (fun (g1 : ¬ ((t9 : Int) = (t9 : Int))) => False.elim (g1 rfl))
  show Ev X k_L_law (1894, [some (vr 1000000), some (vr 0), some (vr 135), some (vr 145), some (vi (i : Int)), some (vi (t9 : Int)), some (vi z1)], []) (MS I2 J2 (cc + c9) (ss + 6 * c9)) _
  refine ev_nL hC (fr' := (1896, [some (vr 1000000), some (vr 0), some (vr 135), some (vr 145), some (vi (i : Int)), some (vi (t9 : Int)), some (vi z1)], [vi (t9 : Int)])) (S' := MS I2 J2 (cc + c9) (ss + 6 * c9)) 1 rfl ?_
  refine ev_if (c := .ne) (off := 15) (hC _ _ rfl) (by decide) (fun (g2 : (t9 : Int) ≠ 0) => ?_) (fun (g2 : ¬ ((t9 : Int) ≠ 0)) => ?_)
  · show Ev X k_L_law (1911, [some (vr 1000000), some (vr 0), some (vr 135), some (vr 145), some (vi (i : Int)), some (vi (t9 : Int)), some (vi z1)], []) (MS I2 J2 (cc + c9) (ss + 6 * c9)) _
    refine ev_nL hC (fr' := (2672, [some (vr 1000000), some (vr 0), some (vr 135), some (vr 145), some (vi (i : Int)), some (vi (t9 : Int)), some (vi z1)], [])) (S' := MS I2 J2 (cc + c9) (ss + 6 * c9)) 1 rfl ?_
    exact K _ _ _ _ _ hc hI
  · show Ev X k_L_law (1899, [some (vr 1000000), some (vr 0), some (vr 135), some (vr 145), some (vi (i : Int)), some (vi (t9 : Int)), some (vi z1)], []) (MS I2 J2 (cc + c9) (ss + 6 * c9)) _
    refine ev_nL hC (fr' := (1901, [some (vr 1000000), some (vr 0), some (vr 135), some (vr 145), some (vi (i : Int)), some (vi (t9 : Int)), some (vi z1)], [vi 0, vr 145])) (S' := MS I2 J2 (cc + c9) (ss + 6 * c9)) 2 rfl ?_
    refine ev_laN (j := 0) (z := (J2 145 0)) (hC _ _ rfl) rfl (by omega) (by omega) (rfl) ?_
    show Ev X k_L_law (1902, [some (vr 1000000), some (vr 0), some (vr 135), some (vr 145), some (vi (i : Int)), some (vi (t9 : Int)), some (vi z1)], [vl (J2 145 0)]) (MS I2 J2 (cc + c9) (ss + 6 * c9)) _
    refine ev_nL hC (fr' := (1905, [some (vr 1000000), some (vr 0), some (vr 135), some (vr 145), some (vi (i : Int)), some (vi (t9 : Int)), some (vi z1)], [vl z1, vl (J2 145 0)])) (S' := MS I2 J2 (cc + c9) (ss + 6 * c9)) 2 rfl ?_
    refine ev_lc (c := .eq) (off := 5) (hC _ _ rfl) (hC _ _ rfl) (by decide) (fun (g3 : (J2 145 0) = z1) => ?_) (fun (g3 : ¬ ((J2 145 0) = z1)) => False.elim (g3 (hz (by omega)).1))
    show Ev X k_L_law (1911, [some (vr 1000000), some (vr 0), some (vr 135), some (vr 145), some (vi (i : Int)), some (vi (t9 : Int)), some (vi z1)], []) (MS I2 J2 (cc + c9) (ss + 6 * c9)) _
    refine ev_nL hC (fr' := (2672, [some (vr 1000000), some (vr 0), some (vr 135), some (vr 145), some (vi (i : Int)), some (vi (t9 : Int)), some (vi z1)], [])) (S' := MS I2 J2 (cc + c9) (ss + 6 * c9)) 1 rfl ?_
    exact K _ _ _ _ _ hc hI
set_option maxRecDepth 100000 in
noncomputable def cl_isMirrored : List (Nat × AI) := [(1914, .aload_n 1, 1, (0, 0, 0)), (1915, .aload_n 0, 1, (0, 0, 0)), (1916, .iload 4, 2, (0, 0, 0)), (1918, .iconst 1, 1, (0, 0, 0)), (1919, .iadd, 1, (0, 0, 0)), (1920, .iaload, 1, (0, 0, 0)), (1921, .aload_n 0, 1, (0, 0, 0)), (1922, .iload 4, 2, (0, 0, 0)), (1924, .iconst 2, 1, (0, 0, 0)), (1925, .iadd, 1, (0, 0, 0)), (1926, .iaload, 1, (0, 0, 0)), (1927, .aload_n 0, 1, (0, 0, 0)), (1928, .iload 4, 2, (0, 0, 0)), (1930, .iconst 3, 1, (0, 0, 0)), (1931, .iadd, 1, (0, 0, 0)), (1932, .iaload, 1, (0, 0, 0)), (1933, .ifCond .eq 7, 3, (0, 0, 0)), (1936, .iconst 1, 1, (0, 0, 0)), (1937, .goto 4, 3, (0, 0, 0)), (1940, .iconst 0, 1, (0, 0, 0)), (1941, .aload_n 3, 1, (0, 0, 0)), (1942, .invokestatic 215, 3, (10, 271, 5)), (1945, .istore 5, 2, (0, 0, 0)), (1947, .aload_n 2, 1, (0, 0, 0)), (1948, .aload_n 0, 1, (0, 0, 0)), (1949, .iload 4, 2, (0, 0, 0)), (1951, .iconst 1, 1, (0, 0, 0)), (1952, .iadd, 1, (0, 0, 0)), (1953, .iaload, 1, (0, 0, 0)), (1954, .aload_n 0, 1, (0, 0, 0)), (1955, .iload 4, 2, (0, 0, 0)), (1957, .iconst 2, 1, (0, 0, 0)), (1958, .iadd, 1, (0, 0, 0)), (1959, .iaload, 1, (0, 0, 0)), (1960, .aload_n 0, 1, (0, 0, 0)), (1961, .iload 4, 2, (0, 0, 0)), (1963, .iconst 3, 1, (0, 0, 0)), (1964, .iadd, 1, (0, 0, 0)), (1965, .iaload, 1, (0, 0, 0)), (1966, .ifCond .eq 7, 3, (0, 0, 0)), (1969, .iconst 1, 1, (0, 0, 0)), (1970, .goto 4, 3, (0, 0, 0)), (1973, .iconst 0, 1, (0, 0, 0)), (1974, .invokevirtual 218, 3, (1, 148, 3)), (1977, .istore 6, 2, (0, 0, 0)), (1979, .aload_n 2, 1, (0, 0, 0)), (1980, .invokevirtual 133, 3, (1, 56, 0)), (1983, .iload 5, 2, (0, 0, 0)), (1985, .if_icmp .eq 5, 3, (0, 0, 0)), (1988, .iconst 0, 1, (0, 0, 0)), (1989, .ireturn, 1, (1, 0, 0)), (1990, .iload 5, 2, (0, 0, 0)), (1992, .ifCond .ne 22, 3, (0, 0, 0)), (1995, .aload_n 3, 1, (0, 0, 0)), (1996, .iconst 0, 1, (0, 0, 0)), (1997, .laload, 1, (0, 0, 0)), (1998, .iload 6, 2, (0, 0, 0)), (2000, .ifCond .eq 7, 3, (0, 0, 0)), (2003, .lconst 1, 1, (0, 0, 0)), (2004, .goto 4, 3, (0, 0, 0)), (2007, .lconst 0, 1, (0, 0, 0)), (2008, .lcmp, 1, (0, 0, 0)), (2009, .ifCond .eq 5, 3, (0, 0, 0)), (2012, .iconst 0, 1, (0, 0, 0)), (2013, .ireturn, 1, (1, 0, 0)), (2014, .goto 658, 3, (0, 0, 0))]
set_option maxRecDepth 100000 in
theorem ck_isMirrored : lkS cl_isMirrored k_L_law := lkS_of (by decide +kernel)
theorem lw_isMirrored_0 (X : AX) (I J : Nat → Nat → Int) (cc ss : Nat) {Q : (Option AV ⊕ Nat) → AS → Prop} (i : Nat) (hi : i + 6 ≤ X.1) (h72 : X.1 ≤ 3072) (v5 v6 : Option AV) (hb : X.2 (i + 3) = 0) (H : Two X k_L_isMirrored k_X9_isMirrored (0, [some (vr 0), some (vi (X.2 (i + 1))), some (vi (X.2 (i + 2))), some (vi 0), some (vr 145), none], []) (0, [some (vr 135), some (vi (X.2 (i + 1))), some (vi (X.2 (i + 2))), some (vi 0), none, none, none], []) (fun r => r = 0 ∨ r = 1) I J cc ss) (K : ∀ I' J' c v5 v6, c ≤ 1 → INV I' J' → Ev X k_L_law (2672, [some (vr 1000000), some (vr 0), some (vr 135), some (vr 145), some (vi (i : Int)), v5, v6], []) (MS I' J' (cc + c) (ss + 6 * c)) Q) : Ev X k_L_law (1914, [some (vr 1000000), some (vr 0), some (vr 135), some (vr 145), some (vi (i : Int)), v5, v6], []) (MS I J cc ss) (Q) := by
  have hC := ck_isMirrored
  refine ev_nL hC (fr' := (1919, [some (vr 1000000), some (vr 0), some (vr 135), some (vr 145), some (vi (i : Int)), v5, v6], [vi 1, vi (i : Int), vr 1000000, vr 0])) (S' := MS I J cc ss) 4 rfl ?_
  refine ev_add (z := (i : Int) + 1) (hC _ _ rfl) (by omega) (by omega) (by omega) ?_
  show Ev X k_L_law (1920, [some (vr 1000000), some (vr 0), some (vr 135), some (vr 145), some (vi (i : Int)), v5, v6], [vi ((i : Int) + 1), vr 1000000, vr 0]) (MS I J cc ss) _
  refine ev_xsN (j := i + 1) (hC _ _ rfl) rfl (by omega) (by omega) rfl ?_
  show Ev X k_L_law (1921, [some (vr 1000000), some (vr 0), some (vr 135), some (vr 145), some (vi (i : Int)), v5, v6], [vi (X.2 (i + 1)), vr 0]) (MS I J cc ss) _
  refine ev_nL hC (fr' := (1925, [some (vr 1000000), some (vr 0), some (vr 135), some (vr 145), some (vi (i : Int)), v5, v6], [vi 2, vi (i : Int), vr 1000000, vi (X.2 (i + 1)), vr 0])) (S' := MS I J cc ss) 3 rfl ?_
  refine ev_add (z := (i : Int) + 2) (hC _ _ rfl) (by omega) (by omega) (by omega) ?_
  show Ev X k_L_law (1926, [some (vr 1000000), some (vr 0), some (vr 135), some (vr 145), some (vi (i : Int)), v5, v6], [vi ((i : Int) + 2), vr 1000000, vi (X.2 (i + 1)), vr 0]) (MS I J cc ss) _
  refine ev_xsN (j := i + 2) (hC _ _ rfl) rfl (by omega) (by omega) rfl ?_
  show Ev X k_L_law (1927, [some (vr 1000000), some (vr 0), some (vr 135), some (vr 145), some (vi (i : Int)), v5, v6], [vi (X.2 (i + 2)), vi (X.2 (i + 1)), vr 0]) (MS I J cc ss) _
  refine ev_nL hC (fr' := (1931, [some (vr 1000000), some (vr 0), some (vr 135), some (vr 145), some (vi (i : Int)), v5, v6], [vi 3, vi (i : Int), vr 1000000, vi (X.2 (i + 2)), vi (X.2 (i + 1)), vr 0])) (S' := MS I J cc ss) 3 rfl ?_
  refine ev_add (z := (i : Int) + 3) (hC _ _ rfl) (by omega) (by omega) (by omega) ?_
  show Ev X k_L_law (1932, [some (vr 1000000), some (vr 0), some (vr 135), some (vr 145), some (vi (i : Int)), v5, v6], [vi ((i : Int) + 3), vr 1000000, vi (X.2 (i + 2)), vi (X.2 (i + 1)), vr 0]) (MS I J cc ss) _
  refine ev_xsN (j := i + 3) (hC _ _ rfl) rfl (by omega) (by omega) rfl ?_
  show Ev X k_L_law (1933, [some (vr 1000000), some (vr 0), some (vr 135), some (vr 145), some (vi (i : Int)), v5, v6], [vi (X.2 (i + 3)), vi (X.2 (i + 2)), vi (X.2 (i + 1)), vr 0]) (MS I J cc ss) _
  refine ev_if (c := .eq) (off := 7) (hC _ _ rfl) (by decide) (fun (g1 : (X.2 (i + 3)) = 0) => ?_) (fun (g1 : ¬ ((X.2 (i + 3)) = 0)) => False.elim (by omega))
  show Ev X k_L_law (1940, [some (vr 1000000), some (vr 0), some (vr 135), some (vr 145), some (vi (i : Int)), v5, v6], [vi (X.2 (i + 2)), vi (X.2 (i + 1)), vr 0]) (MS I J cc ss) _
  refine ev_nL hC (fr' := (1942, [some (vr 1000000), some (vr 0), some (vr 135), some (vr 145), some (vi (i : Int)), v5, v6], [vr 145, vi 0, vi (X.2 (i + 2)), vi (X.2 (i + 1)), vr 0])) (S' := MS I J cc ss) 2 rfl ?_
  refine ev_ct (hC _ _ rfl) rfl rfl ⟨Nat.le_of_ble_eq_true rfl, Nat.le_of_ble_eq_true rfl⟩ (H) (fun t9 c9 I1 J1 q1 => ?_)
  obtain ⟨hc, hr⟩ := q1
  show Ev X k_L_law (1945, [some (vr 1000000), some (vr 0), some (vr 135), some (vr 145), some (vi (i : Int)), v5, v6], [vi (t9 : Int)]) (MS I1 J1 (cc + c9) (ss + 6 * c9)) _
  refine ev_nL hC (fr' := (1952, [some (vr 1000000), some (vr 0), some (vr 135), some (vr 145), some (vi (i : Int)), some (vi (t9 : Int)), v6], [vi 1, vi (i : Int), vr 1000000, vr 135])) (S' := MS I1 J1 (cc + c9) (ss + 6 * c9)) 5 rfl ?_
  refine ev_add (z := (i : Int) + 1) (hC _ _ rfl) (by omega) (by omega) (by omega) ?_
  show Ev X k_L_law (1953, [some (vr 1000000), some (vr 0), some (vr 135), some (vr 145), some (vi (i : Int)), some (vi (t9 : Int)), v6], [vi ((i : Int) + 1), vr 1000000, vr 135]) (MS I1 J1 (cc + c9) (ss + 6 * c9)) _
  refine ev_xsN (j := i + 1) (hC _ _ rfl) rfl (by omega) (by omega) rfl ?_
  show Ev X k_L_law (1954, [some (vr 1000000), some (vr 0), some (vr 135), some (vr 145), some (vi (i : Int)), some (vi (t9 : Int)), v6], [vi (X.2 (i + 1)), vr 135]) (MS I1 J1 (cc + c9) (ss + 6 * c9)) _
  refine ev_nL hC (fr' := (1958, [some (vr 1000000), some (vr 0), some (vr 135), some (vr 145), some (vi (i : Int)), some (vi (t9 : Int)), v6], [vi 2, vi (i : Int), vr 1000000, vi (X.2 (i + 1)), vr 135])) (S' := MS I1 J1 (cc + c9) (ss + 6 * c9)) 3 rfl ?_
  refine ev_add (z := (i : Int) + 2) (hC _ _ rfl) (by omega) (by omega) (by omega) ?_
  show Ev X k_L_law (1959, [some (vr 1000000), some (vr 0), some (vr 135), some (vr 145), some (vi (i : Int)), some (vi (t9 : Int)), v6], [vi ((i : Int) + 2), vr 1000000, vi (X.2 (i + 1)), vr 135]) (MS I1 J1 (cc + c9) (ss + 6 * c9)) _
  refine ev_xsN (j := i + 2) (hC _ _ rfl) rfl (by omega) (by omega) rfl ?_
  show Ev X k_L_law (1960, [some (vr 1000000), some (vr 0), some (vr 135), some (vr 145), some (vi (i : Int)), some (vi (t9 : Int)), v6], [vi (X.2 (i + 2)), vi (X.2 (i + 1)), vr 135]) (MS I1 J1 (cc + c9) (ss + 6 * c9)) _
  refine ev_nL hC (fr' := (1964, [some (vr 1000000), some (vr 0), some (vr 135), some (vr 145), some (vi (i : Int)), some (vi (t9 : Int)), v6], [vi 3, vi (i : Int), vr 1000000, vi (X.2 (i + 2)), vi (X.2 (i + 1)), vr 135])) (S' := MS I1 J1 (cc + c9) (ss + 6 * c9)) 3 rfl ?_
  refine ev_add (z := (i : Int) + 3) (hC _ _ rfl) (by omega) (by omega) (by omega) ?_
  show Ev X k_L_law (1965, [some (vr 1000000), some (vr 0), some (vr 135), some (vr 145), some (vi (i : Int)), some (vi (t9 : Int)), v6], [vi ((i : Int) + 3), vr 1000000, vi (X.2 (i + 2)), vi (X.2 (i + 1)), vr 135]) (MS I1 J1 (cc + c9) (ss + 6 * c9)) _
  refine ev_xsN (j := i + 3) (hC _ _ rfl) rfl (by omega) (by omega) rfl ?_
  show Ev X k_L_law (1966, [some (vr 1000000), some (vr 0), some (vr 135), some (vr 145), some (vi (i : Int)), some (vi (t9 : Int)), v6], [vi (X.2 (i + 3)), vi (X.2 (i + 2)), vi (X.2 (i + 1)), vr 135]) (MS I1 J1 (cc + c9) (ss + 6 * c9)) _
  refine ev_if (c := .eq) (off := 7) (hC _ _ rfl) (by decide) (fun (g2 : (X.2 (i + 3)) = 0) => ?_) (fun (g2 : ¬ ((X.2 (i + 3)) = 0)) => False.elim (by omega))
  show Ev X k_L_law (1973, [some (vr 1000000), some (vr 0), some (vr 135), some (vr 145), some (vi (i : Int)), some (vi (t9 : Int)), v6], [vi (X.2 (i + 2)), vi (X.2 (i + 1)), vr 135]) (MS I1 J1 (cc + c9) (ss + 6 * c9)) _
  refine ev_nL hC (fr' := (1974, [some (vr 1000000), some (vr 0), some (vr 135), some (vr 145), some (vi (i : Int)), some (vi (t9 : Int)), v6], [vi 0, vi (X.2 (i + 2)), vi (X.2 (i + 1)), vr 135])) (S' := MS I1 J1 (cc + c9) (ss + 6 * c9)) 1 rfl ?_
  refine ev_cz (hC _ _ rfl) rfl rfl ⟨Nat.le_of_ble_eq_true rfl, Nat.le_of_ble_eq_true rfl⟩ (hr) (fun z1 I2 J2 q2 => ?_)
  obtain ⟨h4, hz, hI⟩ := q2
  show Ev X k_L_law (1977, [some (vr 1000000), some (vr 0), some (vr 135), some (vr 145), some (vi (i : Int)), some (vi (t9 : Int)), v6], [vi z1]) (MS I2 J2 (cc + c9) (ss + 6 * c9)) _
  have hz : t9 = 0 → J2 145 0 = z1 ∧ (z1 = 0 ∨ z1 = 1) := hz
  refine ev_nL hC (fr' := (1980, [some (vr 1000000), some (vr 0), some (vr 135), some (vr 145), some (vi (i : Int)), some (vi (t9 : Int)), some (vi z1)], [vr 135])) (S' := MS I2 J2 (cc + c9) (ss + 6 * c9)) 2 rfl ?_
  refine ev_cv (hC _ _ rfl) rfl rfl ⟨Nat.le_of_ble_eq_true rfl, Nat.le_of_ble_eq_true rfl⟩ (sp_thrown X _ _ _ _ h4) ?_
  show Ev X k_L_law (1983, [some (vr 1000000), some (vr 0), some (vr 135), some (vr 145), some (vi (i : Int)), some (vi (t9 : Int)), some (vi z1)], [vi (t9 : Int)]) (MS I2 J2 (cc + c9) (ss + 6 * c9)) _
  refine ev_nL hC (fr' := (1985, [some (vr 1000000), some (vr 0), some (vr 135), some (vr 145), some (vi (i : Int)), some (vi (t9 : Int)), some (vi z1)], [vi (t9 : Int), vi (t9 : Int)])) (S' := MS I2 J2 (cc + c9) (ss + 6 * c9)) 1 rfl ?_
  refine ev_ic (c := .eq) (off := 5) (hC _ _ rfl) (by decide) (fun (g3 : (t9 : Int) = (t9 : Int)) => ?_) (fun (g3 : ¬ ((t9 : Int) = (t9 : Int))) => False.elim (g3 rfl))
  show Ev X k_L_law (1990, [some (vr 1000000), some (vr 0), some (vr 135), some (vr 145), some (vi (i : Int)), some (vi (t9 : Int)), some (vi z1)], []) (MS I2 J2 (cc + c9) (ss + 6 * c9)) _
  refine ev_nL hC (fr' := (1992, [some (vr 1000000), some (vr 0), some (vr 135), some (vr 145), some (vi (i : Int)), some (vi (t9 : Int)), some (vi z1)], [vi (t9 : Int)])) (S' := MS I2 J2 (cc + c9) (ss + 6 * c9)) 1 rfl ?_
  refine ev_if (c := .ne) (off := 22) (hC _ _ rfl) (by decide) (fun (g4 : (t9 : Int) ≠ 0) => ?_) (fun (g4 : ¬ ((t9 : Int) ≠ 0)) => ?_)
  · show Ev X k_L_law (2014, [some (vr 1000000), some (vr 0), some (vr 135), some (vr 145), some (vi (i : Int)), some (vi (t9 : Int)), some (vi z1)], []) (MS I2 J2 (cc + c9) (ss + 6 * c9)) _
    refine ev_nL hC (fr' := (2672, [some (vr 1000000), some (vr 0), some (vr 135), some (vr 145), some (vi (i : Int)), some (vi (t9 : Int)), some (vi z1)], [])) (S' := MS I2 J2 (cc + c9) (ss + 6 * c9)) 1 rfl ?_
    exact K _ _ _ _ _ hc hI
  · show Ev X k_L_law (1995, [some (vr 1000000), some (vr 0), some (vr 135), some (vr 145), some (vi (i : Int)), some (vi (t9 : Int)), some (vi z1)], []) (MS I2 J2 (cc + c9) (ss + 6 * c9)) _
    refine ev_nL hC (fr' := (1997, [some (vr 1000000), some (vr 0), some (vr 135), some (vr 145), some (vi (i : Int)), some (vi (t9 : Int)), some (vi z1)], [vi 0, vr 145])) (S' := MS I2 J2 (cc + c9) (ss + 6 * c9)) 2 rfl ?_
    refine ev_laN (j := 0) (z := (J2 145 0)) (hC _ _ rfl) rfl (by omega) (by omega) (rfl) ?_
    show Ev X k_L_law (1998, [some (vr 1000000), some (vr 0), some (vr 135), some (vr 145), some (vi (i : Int)), some (vi (t9 : Int)), some (vi z1)], [vl (J2 145 0)]) (MS I2 J2 (cc + c9) (ss + 6 * c9)) _
    refine ev_nL hC (fr' := (2000, [some (vr 1000000), some (vr 0), some (vr 135), some (vr 145), some (vi (i : Int)), some (vi (t9 : Int)), some (vi z1)], [vi z1, vl (J2 145 0)])) (S' := MS I2 J2 (cc + c9) (ss + 6 * c9)) 1 rfl ?_
    refine ev_if (c := .eq) (off := 7) (hC _ _ rfl) (by decide) (fun (g5 : z1 = 0) => ?_) (fun (g5 : ¬ (z1 = 0)) => ?_)
    · show Ev X k_L_law (2007, [some (vr 1000000), some (vr 0), some (vr 135), some (vr 145), some (vi (i : Int)), some (vi (t9 : Int)), some (vi z1)], [vl (J2 145 0)]) (MS I2 J2 (cc + c9) (ss + 6 * c9)) _
      refine ev_nL hC (fr' := (2008, [some (vr 1000000), some (vr 0), some (vr 135), some (vr 145), some (vi (i : Int)), some (vi (t9 : Int)), some (vi z1)], [vl 0, vl (J2 145 0)])) (S' := MS I2 J2 (cc + c9) (ss + 6 * c9)) 1 rfl ?_
      refine ev_lc (c := .eq) (off := 5) (hC _ _ rfl) (hC _ _ rfl) (by decide) (fun (g6 : (J2 145 0) = 0) => ?_) (fun (g6 : ¬ ((J2 145 0) = 0)) => False.elim (by have q9 := hz (by omega); omega))
      show Ev X k_L_law (2014, [some (vr 1000000), some (vr 0), some (vr 135), some (vr 145), some (vi (i : Int)), some (vi (t9 : Int)), some (vi z1)], []) (MS I2 J2 (cc + c9) (ss + 6 * c9)) _
      refine ev_nL hC (fr' := (2672, [some (vr 1000000), some (vr 0), some (vr 135), some (vr 145), some (vi (i : Int)), some (vi (t9 : Int)), some (vi z1)], [])) (S' := MS I2 J2 (cc + c9) (ss + 6 * c9)) 1 rfl ?_
      exact K _ _ _ _ _ hc hI
    · show Ev X k_L_law (2003, [some (vr 1000000), some (vr 0), some (vr 135), some (vr 145), some (vi (i : Int)), some (vi (t9 : Int)), some (vi z1)], [vl (J2 145 0)]) (MS I2 J2 (cc + c9) (ss + 6 * c9)) _
      refine ev_nL hC (fr' := (2008, [some (vr 1000000), some (vr 0), some (vr 135), some (vr 145), some (vi (i : Int)), some (vi (t9 : Int)), some (vi z1)], [vl 1, vl (J2 145 0)])) (S' := MS I2 J2 (cc + c9) (ss + 6 * c9)) 2 rfl ?_
      refine ev_lc (c := .eq) (off := 5) (hC _ _ rfl) (hC _ _ rfl) (by decide) (fun (g7 : (J2 145 0) = 1) => ?_) (fun (g7 : ¬ ((J2 145 0) = 1)) => False.elim (by have q9 := hz (by omega); omega))
      show Ev X k_L_law (2014, [some (vr 1000000), some (vr 0), some (vr 135), some (vr 145), some (vi (i : Int)), some (vi (t9 : Int)), some (vi z1)], []) (MS I2 J2 (cc + c9) (ss + 6 * c9)) _
      refine ev_nL hC (fr' := (2672, [some (vr 1000000), some (vr 0), some (vr 135), some (vr 145), some (vi (i : Int)), some (vi (t9 : Int)), some (vi z1)], [])) (S' := MS I2 J2 (cc + c9) (ss + 6 * c9)) 1 rfl ?_
      exact K _ _ _ _ _ hc hI
theorem lw_isMirrored_1 (X : AX) (I J : Nat → Nat → Int) (cc ss : Nat) {Q : (Option AV ⊕ Nat) → AS → Prop} (i : Nat) (hi : i + 6 ≤ X.1) (h72 : X.1 ≤ 3072) (v5 v6 : Option AV) (hb : ¬ X.2 (i + 3) = 0) (H : Two X k_L_isMirrored k_X9_isMirrored (0, [some (vr 0), some (vi (X.2 (i + 1))), some (vi (X.2 (i + 2))), some (vi 1), some (vr 145), none], []) (0, [some (vr 135), some (vi (X.2 (i + 1))), some (vi (X.2 (i + 2))), some (vi 1), none, none, none], []) (fun r => r = 0 ∨ r = 1) I J cc ss) (K : ∀ I' J' c v5 v6, c ≤ 1 → INV I' J' → Ev X k_L_law (2672, [some (vr 1000000), some (vr 0), some (vr 135), some (vr 145), some (vi (i : Int)), v5, v6], []) (MS I' J' (cc + c) (ss + 6 * c)) Q) : Ev X k_L_law (1914, [some (vr 1000000), some (vr 0), some (vr 135), some (vr 145), some (vi (i : Int)), v5, v6], []) (MS I J cc ss) (Q) := by
  have hC := ck_isMirrored
  refine ev_nL hC (fr' := (1919, [some (vr 1000000), some (vr 0), some (vr 135), some (vr 145), some (vi (i : Int)), v5, v6], [vi 1, vi (i : Int), vr 1000000, vr 0])) (S' := MS I J cc ss) 4 rfl ?_
  refine ev_add (z := (i : Int) + 1) (hC _ _ rfl) (by omega) (by omega) (by omega) ?_
  show Ev X k_L_law (1920, [some (vr 1000000), some (vr 0), some (vr 135), some (vr 145), some (vi (i : Int)), v5, v6], [vi ((i : Int) + 1), vr 1000000, vr 0]) (MS I J cc ss) _
  refine ev_xsN (j := i + 1) (hC _ _ rfl) rfl (by omega) (by omega) rfl ?_
  show Ev X k_L_law (1921, [some (vr 1000000), some (vr 0), some (vr 135), some (vr 145), some (vi (i : Int)), v5, v6], [vi (X.2 (i + 1)), vr 0]) (MS I J cc ss) _
  refine ev_nL hC (fr' := (1925, [some (vr 1000000), some (vr 0), some (vr 135), some (vr 145), some (vi (i : Int)), v5, v6], [vi 2, vi (i : Int), vr 1000000, vi (X.2 (i + 1)), vr 0])) (S' := MS I J cc ss) 3 rfl ?_
  refine ev_add (z := (i : Int) + 2) (hC _ _ rfl) (by omega) (by omega) (by omega) ?_
  show Ev X k_L_law (1926, [some (vr 1000000), some (vr 0), some (vr 135), some (vr 145), some (vi (i : Int)), v5, v6], [vi ((i : Int) + 2), vr 1000000, vi (X.2 (i + 1)), vr 0]) (MS I J cc ss) _
  refine ev_xsN (j := i + 2) (hC _ _ rfl) rfl (by omega) (by omega) rfl ?_
  show Ev X k_L_law (1927, [some (vr 1000000), some (vr 0), some (vr 135), some (vr 145), some (vi (i : Int)), v5, v6], [vi (X.2 (i + 2)), vi (X.2 (i + 1)), vr 0]) (MS I J cc ss) _
  refine ev_nL hC (fr' := (1931, [some (vr 1000000), some (vr 0), some (vr 135), some (vr 145), some (vi (i : Int)), v5, v6], [vi 3, vi (i : Int), vr 1000000, vi (X.2 (i + 2)), vi (X.2 (i + 1)), vr 0])) (S' := MS I J cc ss) 3 rfl ?_
  refine ev_add (z := (i : Int) + 3) (hC _ _ rfl) (by omega) (by omega) (by omega) ?_
  show Ev X k_L_law (1932, [some (vr 1000000), some (vr 0), some (vr 135), some (vr 145), some (vi (i : Int)), v5, v6], [vi ((i : Int) + 3), vr 1000000, vi (X.2 (i + 2)), vi (X.2 (i + 1)), vr 0]) (MS I J cc ss) _
  refine ev_xsN (j := i + 3) (hC _ _ rfl) rfl (by omega) (by omega) rfl ?_
  show Ev X k_L_law (1933, [some (vr 1000000), some (vr 0), some (vr 135), some (vr 145), some (vi (i : Int)), v5, v6], [vi (X.2 (i + 3)), vi (X.2 (i + 2)), vi (X.2 (i + 1)), vr 0]) (MS I J cc ss) _
  refine ev_if (c := .eq) (off := 7) (hC _ _ rfl) (by decide) (fun (g1 : (X.2 (i + 3)) = 0) => False.elim (by omega)) (fun (g1 : ¬ ((X.2 (i + 3)) = 0)) => ?_)
  show Ev X k_L_law (1936, [some (vr 1000000), some (vr 0), some (vr 135), some (vr 145), some (vi (i : Int)), v5, v6], [vi (X.2 (i + 2)), vi (X.2 (i + 1)), vr 0]) (MS I J cc ss) _
  refine ev_nL hC (fr' := (1942, [some (vr 1000000), some (vr 0), some (vr 135), some (vr 145), some (vi (i : Int)), v5, v6], [vr 145, vi 1, vi (X.2 (i + 2)), vi (X.2 (i + 1)), vr 0])) (S' := MS I J cc ss) 3 rfl ?_
  refine ev_ct (hC _ _ rfl) rfl rfl ⟨Nat.le_of_ble_eq_true rfl, Nat.le_of_ble_eq_true rfl⟩ (H) (fun t9 c9 I1 J1 q1 => ?_)
  obtain ⟨hc, hr⟩ := q1
  show Ev X k_L_law (1945, [some (vr 1000000), some (vr 0), some (vr 135), some (vr 145), some (vi (i : Int)), v5, v6], [vi (t9 : Int)]) (MS I1 J1 (cc + c9) (ss + 6 * c9)) _
  refine ev_nL hC (fr' := (1952, [some (vr 1000000), some (vr 0), some (vr 135), some (vr 145), some (vi (i : Int)), some (vi (t9 : Int)), v6], [vi 1, vi (i : Int), vr 1000000, vr 135])) (S' := MS I1 J1 (cc + c9) (ss + 6 * c9)) 5 rfl ?_
  refine ev_add (z := (i : Int) + 1) (hC _ _ rfl) (by omega) (by omega) (by omega) ?_
  show Ev X k_L_law (1953, [some (vr 1000000), some (vr 0), some (vr 135), some (vr 145), some (vi (i : Int)), some (vi (t9 : Int)), v6], [vi ((i : Int) + 1), vr 1000000, vr 135]) (MS I1 J1 (cc + c9) (ss + 6 * c9)) _
  refine ev_xsN (j := i + 1) (hC _ _ rfl) rfl (by omega) (by omega) rfl ?_
  show Ev X k_L_law (1954, [some (vr 1000000), some (vr 0), some (vr 135), some (vr 145), some (vi (i : Int)), some (vi (t9 : Int)), v6], [vi (X.2 (i + 1)), vr 135]) (MS I1 J1 (cc + c9) (ss + 6 * c9)) _
  refine ev_nL hC (fr' := (1958, [some (vr 1000000), some (vr 0), some (vr 135), some (vr 145), some (vi (i : Int)), some (vi (t9 : Int)), v6], [vi 2, vi (i : Int), vr 1000000, vi (X.2 (i + 1)), vr 135])) (S' := MS I1 J1 (cc + c9) (ss + 6 * c9)) 3 rfl ?_
  refine ev_add (z := (i : Int) + 2) (hC _ _ rfl) (by omega) (by omega) (by omega) ?_
  show Ev X k_L_law (1959, [some (vr 1000000), some (vr 0), some (vr 135), some (vr 145), some (vi (i : Int)), some (vi (t9 : Int)), v6], [vi ((i : Int) + 2), vr 1000000, vi (X.2 (i + 1)), vr 135]) (MS I1 J1 (cc + c9) (ss + 6 * c9)) _
  refine ev_xsN (j := i + 2) (hC _ _ rfl) rfl (by omega) (by omega) rfl ?_
  show Ev X k_L_law (1960, [some (vr 1000000), some (vr 0), some (vr 135), some (vr 145), some (vi (i : Int)), some (vi (t9 : Int)), v6], [vi (X.2 (i + 2)), vi (X.2 (i + 1)), vr 135]) (MS I1 J1 (cc + c9) (ss + 6 * c9)) _
  refine ev_nL hC (fr' := (1964, [some (vr 1000000), some (vr 0), some (vr 135), some (vr 145), some (vi (i : Int)), some (vi (t9 : Int)), v6], [vi 3, vi (i : Int), vr 1000000, vi (X.2 (i + 2)), vi (X.2 (i + 1)), vr 135])) (S' := MS I1 J1 (cc + c9) (ss + 6 * c9)) 3 rfl ?_
  refine ev_add (z := (i : Int) + 3) (hC _ _ rfl) (by omega) (by omega) (by omega) ?_
  show Ev X k_L_law (1965, [some (vr 1000000), some (vr 0), some (vr 135), some (vr 145), some (vi (i : Int)), some (vi (t9 : Int)), v6], [vi ((i : Int) + 3), vr 1000000, vi (X.2 (i + 2)), vi (X.2 (i + 1)), vr 135]) (MS I1 J1 (cc + c9) (ss + 6 * c9)) _
  refine ev_xsN (j := i + 3) (hC _ _ rfl) rfl (by omega) (by omega) rfl ?_
  show Ev X k_L_law (1966, [some (vr 1000000), some (vr 0), some (vr 135), some (vr 145), some (vi (i : Int)), some (vi (t9 : Int)), v6], [vi (X.2 (i + 3)), vi (X.2 (i + 2)), vi (X.2 (i + 1)), vr 135]) (MS I1 J1 (cc + c9) (ss + 6 * c9)) _
  refine ev_if (c := .eq) (off := 7) (hC _ _ rfl) (by decide) (fun (g2 : (X.2 (i + 3)) = 0) => False.elim (by omega)) (fun (g2 : ¬ ((X.2 (i + 3)) = 0)) => ?_)
  show Ev X k_L_law (1969, [some (vr 1000000), some (vr 0), some (vr 135), some (vr 145), some (vi (i : Int)), some (vi (t9 : Int)), v6], [vi (X.2 (i + 2)), vi (X.2 (i + 1)), vr 135]) (MS I1 J1 (cc + c9) (ss + 6 * c9)) _
  refine ev_nL hC (fr' := (1974, [some (vr 1000000), some (vr 0), some (vr 135), some (vr 145), some (vi (i : Int)), some (vi (t9 : Int)), v6], [vi 1, vi (X.2 (i + 2)), vi (X.2 (i + 1)), vr 135])) (S' := MS I1 J1 (cc + c9) (ss + 6 * c9)) 2 rfl ?_
  refine ev_cz (hC _ _ rfl) rfl rfl ⟨Nat.le_of_ble_eq_true rfl, Nat.le_of_ble_eq_true rfl⟩ (hr) (fun z1 I2 J2 q2 => ?_)
  obtain ⟨h4, hz, hI⟩ := q2
  show Ev X k_L_law (1977, [some (vr 1000000), some (vr 0), some (vr 135), some (vr 145), some (vi (i : Int)), some (vi (t9 : Int)), v6], [vi z1]) (MS I2 J2 (cc + c9) (ss + 6 * c9)) _
  have hz : t9 = 0 → J2 145 0 = z1 ∧ (z1 = 0 ∨ z1 = 1) := hz
  refine ev_nL hC (fr' := (1980, [some (vr 1000000), some (vr 0), some (vr 135), some (vr 145), some (vi (i : Int)), some (vi (t9 : Int)), some (vi z1)], [vr 135])) (S' := MS I2 J2 (cc + c9) (ss + 6 * c9)) 2 rfl ?_
  refine ev_cv (hC _ _ rfl) rfl rfl ⟨Nat.le_of_ble_eq_true rfl, Nat.le_of_ble_eq_true rfl⟩ (sp_thrown X _ _ _ _ h4) ?_
  show Ev X k_L_law (1983, [some (vr 1000000), some (vr 0), some (vr 135), some (vr 145), some (vi (i : Int)), some (vi (t9 : Int)), some (vi z1)], [vi (t9 : Int)]) (MS I2 J2 (cc + c9) (ss + 6 * c9)) _
  refine ev_nL hC (fr' := (1985, [some (vr 1000000), some (vr 0), some (vr 135), some (vr 145), some (vi (i : Int)), some (vi (t9 : Int)), some (vi z1)], [vi (t9 : Int), vi (t9 : Int)])) (S' := MS I2 J2 (cc + c9) (ss + 6 * c9)) 1 rfl ?_
  refine ev_ic (c := .eq) (off := 5) (hC _ _ rfl) (by decide) (fun (g3 : (t9 : Int) = (t9 : Int)) => ?_) (fun (g3 : ¬ ((t9 : Int) = (t9 : Int))) => False.elim (g3 rfl))
  show Ev X k_L_law (1990, [some (vr 1000000), some (vr 0), some (vr 135), some (vr 145), some (vi (i : Int)), some (vi (t9 : Int)), some (vi z1)], []) (MS I2 J2 (cc + c9) (ss + 6 * c9)) _
  refine ev_nL hC (fr' := (1992, [some (vr 1000000), some (vr 0), some (vr 135), some (vr 145), some (vi (i : Int)), some (vi (t9 : Int)), some (vi z1)], [vi (t9 : Int)])) (S' := MS I2 J2 (cc + c9) (ss + 6 * c9)) 1 rfl ?_
  refine ev_if (c := .ne) (off := 22) (hC _ _ rfl) (by decide) (fun (g4 : (t9 : Int) ≠ 0) => ?_) (fun (g4 : ¬ ((t9 : Int) ≠ 0)) => ?_)
  · show Ev X k_L_law (2014, [some (vr 1000000), some (vr 0), some (vr 135), some (vr 145), some (vi (i : Int)), some (vi (t9 : Int)), some (vi z1)], []) (MS I2 J2 (cc + c9) (ss + 6 * c9)) _
    refine ev_nL hC (fr' := (2672, [some (vr 1000000), some (vr 0), some (vr 135), some (vr 145), some (vi (i : Int)), some (vi (t9 : Int)), some (vi z1)], [])) (S' := MS I2 J2 (cc + c9) (ss + 6 * c9)) 1 rfl ?_
    exact K _ _ _ _ _ hc hI
  · show Ev X k_L_law (1995, [some (vr 1000000), some (vr 0), some (vr 135), some (vr 145), some (vi (i : Int)), some (vi (t9 : Int)), some (vi z1)], []) (MS I2 J2 (cc + c9) (ss + 6 * c9)) _
    refine ev_nL hC (fr' := (1997, [some (vr 1000000), some (vr 0), some (vr 135), some (vr 145), some (vi (i : Int)), some (vi (t9 : Int)), some (vi z1)], [vi 0, vr 145])) (S' := MS I2 J2 (cc + c9) (ss + 6 * c9)) 2 rfl ?_
    refine ev_laN (j := 0) (z := (J2 145 0)) (hC _ _ rfl) rfl (by omega) (by omega) (rfl) ?_
    show Ev X k_L_law (1998, [some (vr 1000000), some (vr 0), some (vr 135), some (vr 145), some (vi (i : Int)), some (vi (t9 : Int)), some (vi z1)], [vl (J2 145 0)]) (MS I2 J2 (cc + c9) (ss + 6 * c9)) _
    refine ev_nL hC (fr' := (2000, [some (vr 1000000), some (vr 0), some (vr 135), some (vr 145), some (vi (i : Int)), some (vi (t9 : Int)), some (vi z1)], [vi z1, vl (J2 145 0)])) (S' := MS I2 J2 (cc + c9) (ss + 6 * c9)) 1 rfl ?_
    refine ev_if (c := .eq) (off := 7) (hC _ _ rfl) (by decide) (fun (g5 : z1 = 0) => ?_) (fun (g5 : ¬ (z1 = 0)) => ?_)
    · show Ev X k_L_law (2007, [some (vr 1000000), some (vr 0), some (vr 135), some (vr 145), some (vi (i : Int)), some (vi (t9 : Int)), some (vi z1)], [vl (J2 145 0)]) (MS I2 J2 (cc + c9) (ss + 6 * c9)) _
      refine ev_nL hC (fr' := (2008, [some (vr 1000000), some (vr 0), some (vr 135), some (vr 145), some (vi (i : Int)), some (vi (t9 : Int)), some (vi z1)], [vl 0, vl (J2 145 0)])) (S' := MS I2 J2 (cc + c9) (ss + 6 * c9)) 1 rfl ?_
      refine ev_lc (c := .eq) (off := 5) (hC _ _ rfl) (hC _ _ rfl) (by decide) (fun (g6 : (J2 145 0) = 0) => ?_) (fun (g6 : ¬ ((J2 145 0) = 0)) => False.elim (by have q9 := hz (by omega); omega))
      show Ev X k_L_law (2014, [some (vr 1000000), some (vr 0), some (vr 135), some (vr 145), some (vi (i : Int)), some (vi (t9 : Int)), some (vi z1)], []) (MS I2 J2 (cc + c9) (ss + 6 * c9)) _
      refine ev_nL hC (fr' := (2672, [some (vr 1000000), some (vr 0), some (vr 135), some (vr 145), some (vi (i : Int)), some (vi (t9 : Int)), some (vi z1)], [])) (S' := MS I2 J2 (cc + c9) (ss + 6 * c9)) 1 rfl ?_
      exact K _ _ _ _ _ hc hI
    · show Ev X k_L_law (2003, [some (vr 1000000), some (vr 0), some (vr 135), some (vr 145), some (vi (i : Int)), some (vi (t9 : Int)), some (vi z1)], [vl (J2 145 0)]) (MS I2 J2 (cc + c9) (ss + 6 * c9)) _
      refine ev_nL hC (fr' := (2008, [some (vr 1000000), some (vr 0), some (vr 135), some (vr 145), some (vi (i : Int)), some (vi (t9 : Int)), some (vi z1)], [vl 1, vl (J2 145 0)])) (S' := MS I2 J2 (cc + c9) (ss + 6 * c9)) 2 rfl ?_
      refine ev_lc (c := .eq) (off := 5) (hC _ _ rfl) (hC _ _ rfl) (by decide) (fun (g7 : (J2 145 0) = 1) => ?_) (fun (g7 : ¬ ((J2 145 0) = 1)) => False.elim (by have q9 := hz (by omega); omega))
      show Ev X k_L_law (2014, [some (vr 1000000), some (vr 0), some (vr 135), some (vr 145), some (vi (i : Int)), some (vi (t9 : Int)), some (vi z1)], []) (MS I2 J2 (cc + c9) (ss + 6 * c9)) _
      refine ev_nL hC (fr' := (2672, [some (vr 1000000), some (vr 0), some (vr 135), some (vr 145), some (vi (i : Int)), some (vi (t9 : Int)), some (vi z1)], [])) (S' := MS I2 J2 (cc + c9) (ss + 6 * c9)) 1 rfl ?_
      exact K _ _ _ _ _ hc hI
set_option maxRecDepth 100000 in
noncomputable def cl_difference : List (Nat × AI) := [(2017, .aload_n 1, 1, (0, 0, 0)), (2018, .aload_n 0, 1, (0, 0, 0)), (2019, .iload 4, 2, (0, 0, 0)), (2021, .iconst 1, 1, (0, 0, 0)), (2022, .iadd, 1, (0, 0, 0)), (2023, .iaload, 1, (0, 0, 0)), (2024, .aload_n 0, 1, (0, 0, 0)), (2025, .iload 4, 2, (0, 0, 0)), (2027, .iconst 2, 1, (0, 0, 0)), (2028, .iadd, 1, (0, 0, 0)), (2029, .iaload, 1, (0, 0, 0)), (2030, .aload_n 0, 1, (0, 0, 0)), (2031, .iload 4, 2, (0, 0, 0)), (2033, .iconst 3, 1, (0, 0, 0)), (2034, .iadd, 1, (0, 0, 0)), (2035, .iaload, 1, (0, 0, 0)), (2036, .aload_n 3, 1, (0, 0, 0)), (2037, .invokestatic 219, 3, (10, 272, 5)), (2040, .istore 5, 2, (0, 0, 0)), (2042, .aload_n 2, 1, (0, 0, 0)), (2043, .aload_n 0, 1, (0, 0, 0)), (2044, .iload 4, 2, (0, 0, 0)), (2046, .iconst 1, 1, (0, 0, 0)), (2047, .iadd, 1, (0, 0, 0)), (2048, .iaload, 1, (0, 0, 0)), (2049, .aload_n 0, 1, (0, 0, 0)), (2050, .iload 4, 2, (0, 0, 0)), (2052, .iconst 2, 1, (0, 0, 0)), (2053, .iadd, 1, (0, 0, 0)), (2054, .iaload, 1, (0, 0, 0)), (2055, .aload_n 0, 1, (0, 0, 0)), (2056, .iload 4, 2, (0, 0, 0)), (2058, .iconst 3, 1, (0, 0, 0)), (2059, .iadd, 1, (0, 0, 0)), (2060, .iaload, 1, (0, 0, 0)), (2061, .invokevirtual 221, 3, (1, 149, 3)), (2064, .istore 6, 2, (0, 0, 0)), (2066, .aload_n 2, 1, (0, 0, 0)), (2067, .invokevirtual 133, 3, (1, 56, 0)), (2070, .iload 5, 2, (0, 0, 0)), (2072, .if_icmp .eq 5, 3, (0, 0, 0)), (2075, .iconst 0, 1, (0, 0, 0)), (2076, .ireturn, 1, (1, 0, 0)), (2077, .iload 5, 2, (0, 0, 0)), (2079, .ifCond .ne 15, 3, (0, 0, 0)), (2082, .aload_n 3, 1, (0, 0, 0)), (2083, .iconst 0, 1, (0, 0, 0)), (2084, .laload, 1, (0, 0, 0)), (2085, .iload 6, 2, (0, 0, 0)), (2087, .i2l, 1, (0, 0, 0)), (2088, .lcmp, 1, (0, 0, 0)), (2089, .ifCond .eq 5, 3, (0, 0, 0)), (2092, .iconst 0, 1, (0, 0, 0)), (2093, .ireturn, 1, (1, 0, 0)), (2094, .goto 578, 3, (0, 0, 0))]
set_option maxRecDepth 100000 in
theorem ck_difference : lkS cl_difference k_L_law := lkS_of (by decide +kernel)
theorem lw_difference (X : AX) (I J : Nat → Nat → Int) (cc ss : Nat) {Q : (Option AV ⊕ Nat) → AS → Prop} (i : Nat) (hi : i + 6 ≤ X.1) (h72 : X.1 ≤ 3072) (v5 v6 : Option AV) (H : Two X k_L_difference k_X9_difference (0, [some (vr 0), some (vi (X.2 (i + 1))), some (vi (X.2 (i + 2))), some (vi (X.2 (i + 3))), some (vr 145), none], []) (0, [some (vr 135), some (vi (X.2 (i + 1))), some (vi (X.2 (i + 2))), some (vi (X.2 (i + 3)))], []) (fun _ => True) I J cc ss) (K : ∀ I' J' c v5 v6, c ≤ 1 → INV I' J' → Ev X k_L_law (2672, [some (vr 1000000), some (vr 0), some (vr 135), some (vr 145), some (vi (i : Int)), v5, v6], []) (MS I' J' (cc + c) (ss + 6 * c)) Q) : Ev X k_L_law (2017, [some (vr 1000000), some (vr 0), some (vr 135), some (vr 145), some (vi (i : Int)), v5, v6], []) (MS I J cc ss) (Q) := by
  have hC := ck_difference
  refine ev_nL hC (fr' := (2022, [some (vr 1000000), some (vr 0), some (vr 135), some (vr 145), some (vi (i : Int)), v5, v6], [vi 1, vi (i : Int), vr 1000000, vr 0])) (S' := MS I J cc ss) 4 rfl ?_
  refine ev_add (z := (i : Int) + 1) (hC _ _ rfl) (by omega) (by omega) (by omega) ?_
  show Ev X k_L_law (2023, [some (vr 1000000), some (vr 0), some (vr 135), some (vr 145), some (vi (i : Int)), v5, v6], [vi ((i : Int) + 1), vr 1000000, vr 0]) (MS I J cc ss) _
  refine ev_xsN (j := i + 1) (hC _ _ rfl) rfl (by omega) (by omega) rfl ?_
  show Ev X k_L_law (2024, [some (vr 1000000), some (vr 0), some (vr 135), some (vr 145), some (vi (i : Int)), v5, v6], [vi (X.2 (i + 1)), vr 0]) (MS I J cc ss) _
  refine ev_nL hC (fr' := (2028, [some (vr 1000000), some (vr 0), some (vr 135), some (vr 145), some (vi (i : Int)), v5, v6], [vi 2, vi (i : Int), vr 1000000, vi (X.2 (i + 1)), vr 0])) (S' := MS I J cc ss) 3 rfl ?_
  refine ev_add (z := (i : Int) + 2) (hC _ _ rfl) (by omega) (by omega) (by omega) ?_
  show Ev X k_L_law (2029, [some (vr 1000000), some (vr 0), some (vr 135), some (vr 145), some (vi (i : Int)), v5, v6], [vi ((i : Int) + 2), vr 1000000, vi (X.2 (i + 1)), vr 0]) (MS I J cc ss) _
  refine ev_xsN (j := i + 2) (hC _ _ rfl) rfl (by omega) (by omega) rfl ?_
  show Ev X k_L_law (2030, [some (vr 1000000), some (vr 0), some (vr 135), some (vr 145), some (vi (i : Int)), v5, v6], [vi (X.2 (i + 2)), vi (X.2 (i + 1)), vr 0]) (MS I J cc ss) _
  refine ev_nL hC (fr' := (2034, [some (vr 1000000), some (vr 0), some (vr 135), some (vr 145), some (vi (i : Int)), v5, v6], [vi 3, vi (i : Int), vr 1000000, vi (X.2 (i + 2)), vi (X.2 (i + 1)), vr 0])) (S' := MS I J cc ss) 3 rfl ?_
  refine ev_add (z := (i : Int) + 3) (hC _ _ rfl) (by omega) (by omega) (by omega) ?_
  show Ev X k_L_law (2035, [some (vr 1000000), some (vr 0), some (vr 135), some (vr 145), some (vi (i : Int)), v5, v6], [vi ((i : Int) + 3), vr 1000000, vi (X.2 (i + 2)), vi (X.2 (i + 1)), vr 0]) (MS I J cc ss) _
  refine ev_xsN (j := i + 3) (hC _ _ rfl) rfl (by omega) (by omega) rfl ?_
  show Ev X k_L_law (2036, [some (vr 1000000), some (vr 0), some (vr 135), some (vr 145), some (vi (i : Int)), v5, v6], [vi (X.2 (i + 3)), vi (X.2 (i + 2)), vi (X.2 (i + 1)), vr 0]) (MS I J cc ss) _
  refine ev_nL hC (fr' := (2037, [some (vr 1000000), some (vr 0), some (vr 135), some (vr 145), some (vi (i : Int)), v5, v6], [vr 145, vi (X.2 (i + 3)), vi (X.2 (i + 2)), vi (X.2 (i + 1)), vr 0])) (S' := MS I J cc ss) 1 rfl ?_
  refine ev_ct (hC _ _ rfl) rfl rfl ⟨Nat.le_of_ble_eq_true rfl, Nat.le_of_ble_eq_true rfl⟩ (H) (fun t9 c9 I1 J1 q1 => ?_)
  obtain ⟨hc, hr⟩ := q1
  show Ev X k_L_law (2040, [some (vr 1000000), some (vr 0), some (vr 135), some (vr 145), some (vi (i : Int)), v5, v6], [vi (t9 : Int)]) (MS I1 J1 (cc + c9) (ss + 6 * c9)) _
  refine ev_nL hC (fr' := (2047, [some (vr 1000000), some (vr 0), some (vr 135), some (vr 145), some (vi (i : Int)), some (vi (t9 : Int)), v6], [vi 1, vi (i : Int), vr 1000000, vr 135])) (S' := MS I1 J1 (cc + c9) (ss + 6 * c9)) 5 rfl ?_
  refine ev_add (z := (i : Int) + 1) (hC _ _ rfl) (by omega) (by omega) (by omega) ?_
  show Ev X k_L_law (2048, [some (vr 1000000), some (vr 0), some (vr 135), some (vr 145), some (vi (i : Int)), some (vi (t9 : Int)), v6], [vi ((i : Int) + 1), vr 1000000, vr 135]) (MS I1 J1 (cc + c9) (ss + 6 * c9)) _
  refine ev_xsN (j := i + 1) (hC _ _ rfl) rfl (by omega) (by omega) rfl ?_
  show Ev X k_L_law (2049, [some (vr 1000000), some (vr 0), some (vr 135), some (vr 145), some (vi (i : Int)), some (vi (t9 : Int)), v6], [vi (X.2 (i + 1)), vr 135]) (MS I1 J1 (cc + c9) (ss + 6 * c9)) _
  refine ev_nL hC (fr' := (2053, [some (vr 1000000), some (vr 0), some (vr 135), some (vr 145), some (vi (i : Int)), some (vi (t9 : Int)), v6], [vi 2, vi (i : Int), vr 1000000, vi (X.2 (i + 1)), vr 135])) (S' := MS I1 J1 (cc + c9) (ss + 6 * c9)) 3 rfl ?_
  refine ev_add (z := (i : Int) + 2) (hC _ _ rfl) (by omega) (by omega) (by omega) ?_
  show Ev X k_L_law (2054, [some (vr 1000000), some (vr 0), some (vr 135), some (vr 145), some (vi (i : Int)), some (vi (t9 : Int)), v6], [vi ((i : Int) + 2), vr 1000000, vi (X.2 (i + 1)), vr 135]) (MS I1 J1 (cc + c9) (ss + 6 * c9)) _
  refine ev_xsN (j := i + 2) (hC _ _ rfl) rfl (by omega) (by omega) rfl ?_
  show Ev X k_L_law (2055, [some (vr 1000000), some (vr 0), some (vr 135), some (vr 145), some (vi (i : Int)), some (vi (t9 : Int)), v6], [vi (X.2 (i + 2)), vi (X.2 (i + 1)), vr 135]) (MS I1 J1 (cc + c9) (ss + 6 * c9)) _
  refine ev_nL hC (fr' := (2059, [some (vr 1000000), some (vr 0), some (vr 135), some (vr 145), some (vi (i : Int)), some (vi (t9 : Int)), v6], [vi 3, vi (i : Int), vr 1000000, vi (X.2 (i + 2)), vi (X.2 (i + 1)), vr 135])) (S' := MS I1 J1 (cc + c9) (ss + 6 * c9)) 3 rfl ?_
  refine ev_add (z := (i : Int) + 3) (hC _ _ rfl) (by omega) (by omega) (by omega) ?_
  show Ev X k_L_law (2060, [some (vr 1000000), some (vr 0), some (vr 135), some (vr 145), some (vi (i : Int)), some (vi (t9 : Int)), v6], [vi ((i : Int) + 3), vr 1000000, vi (X.2 (i + 2)), vi (X.2 (i + 1)), vr 135]) (MS I1 J1 (cc + c9) (ss + 6 * c9)) _
  refine ev_xsN (j := i + 3) (hC _ _ rfl) rfl (by omega) (by omega) rfl ?_
  show Ev X k_L_law (2061, [some (vr 1000000), some (vr 0), some (vr 135), some (vr 145), some (vi (i : Int)), some (vi (t9 : Int)), v6], [vi (X.2 (i + 3)), vi (X.2 (i + 2)), vi (X.2 (i + 1)), vr 135]) (MS I1 J1 (cc + c9) (ss + 6 * c9)) _
  refine ev_cz (hC _ _ rfl) rfl rfl ⟨Nat.le_of_ble_eq_true rfl, Nat.le_of_ble_eq_true rfl⟩ (hr) (fun z1 I2 J2 q2 => ?_)
  obtain ⟨h4, hz, hI⟩ := q2
  show Ev X k_L_law (2064, [some (vr 1000000), some (vr 0), some (vr 135), some (vr 145), some (vi (i : Int)), some (vi (t9 : Int)), v6], [vi z1]) (MS I2 J2 (cc + c9) (ss + 6 * c9)) _
  refine ev_nL hC (fr' := (2067, [some (vr 1000000), some (vr 0), some (vr 135), some (vr 145), some (vi (i : Int)), some (vi (t9 : Int)), some (vi z1)], [vr 135])) (S' := MS I2 J2 (cc + c9) (ss + 6 * c9)) 2 rfl ?_
  refine ev_cv (hC _ _ rfl) rfl rfl ⟨Nat.le_of_ble_eq_true rfl, Nat.le_of_ble_eq_true rfl⟩ (sp_thrown X _ _ _ _ h4) ?_
  show Ev X k_L_law (2070, [some (vr 1000000), some (vr 0), some (vr 135), some (vr 145), some (vi (i : Int)), some (vi (t9 : Int)), some (vi z1)], [vi (t9 : Int)]) (MS I2 J2 (cc + c9) (ss + 6 * c9)) _
  refine ev_nL hC (fr' := (2072, [some (vr 1000000), some (vr 0), some (vr 135), some (vr 145), some (vi (i : Int)), some (vi (t9 : Int)), some (vi z1)], [vi (t9 : Int), vi (t9 : Int)])) (S' := MS I2 J2 (cc + c9) (ss + 6 * c9)) 1 rfl ?_
  refine ev_ic (c := .eq) (off := 5) (hC _ _ rfl) (by decide) (fun (g1 : (t9 : Int) = (t9 : Int)) => ?_) (fun (g1 : ¬ ((t9 : Int) = (t9 : Int))) => False.elim (g1 rfl))
  show Ev X k_L_law (2077, [some (vr 1000000), some (vr 0), some (vr 135), some (vr 145), some (vi (i : Int)), some (vi (t9 : Int)), some (vi z1)], []) (MS I2 J2 (cc + c9) (ss + 6 * c9)) _
  refine ev_nL hC (fr' := (2079, [some (vr 1000000), some (vr 0), some (vr 135), some (vr 145), some (vi (i : Int)), some (vi (t9 : Int)), some (vi z1)], [vi (t9 : Int)])) (S' := MS I2 J2 (cc + c9) (ss + 6 * c9)) 1 rfl ?_
  refine ev_if (c := .ne) (off := 15) (hC _ _ rfl) (by decide) (fun (g2 : (t9 : Int) ≠ 0) => ?_) (fun (g2 : ¬ ((t9 : Int) ≠ 0)) => ?_)
  · show Ev X k_L_law (2094, [some (vr 1000000), some (vr 0), some (vr 135), some (vr 145), some (vi (i : Int)), some (vi (t9 : Int)), some (vi z1)], []) (MS I2 J2 (cc + c9) (ss + 6 * c9)) _
    refine ev_nL hC (fr' := (2672, [some (vr 1000000), some (vr 0), some (vr 135), some (vr 145), some (vi (i : Int)), some (vi (t9 : Int)), some (vi z1)], [])) (S' := MS I2 J2 (cc + c9) (ss + 6 * c9)) 1 rfl ?_
    exact K _ _ _ _ _ hc hI
  · show Ev X k_L_law (2082, [some (vr 1000000), some (vr 0), some (vr 135), some (vr 145), some (vi (i : Int)), some (vi (t9 : Int)), some (vi z1)], []) (MS I2 J2 (cc + c9) (ss + 6 * c9)) _
    refine ev_nL hC (fr' := (2084, [some (vr 1000000), some (vr 0), some (vr 135), some (vr 145), some (vi (i : Int)), some (vi (t9 : Int)), some (vi z1)], [vi 0, vr 145])) (S' := MS I2 J2 (cc + c9) (ss + 6 * c9)) 2 rfl ?_
    refine ev_laN (j := 0) (z := (J2 145 0)) (hC _ _ rfl) rfl (by omega) (by omega) (rfl) ?_
    show Ev X k_L_law (2085, [some (vr 1000000), some (vr 0), some (vr 135), some (vr 145), some (vi (i : Int)), some (vi (t9 : Int)), some (vi z1)], [vl (J2 145 0)]) (MS I2 J2 (cc + c9) (ss + 6 * c9)) _
    refine ev_nL hC (fr' := (2088, [some (vr 1000000), some (vr 0), some (vr 135), some (vr 145), some (vi (i : Int)), some (vi (t9 : Int)), some (vi z1)], [vl z1, vl (J2 145 0)])) (S' := MS I2 J2 (cc + c9) (ss + 6 * c9)) 2 rfl ?_
    refine ev_lc (c := .eq) (off := 5) (hC _ _ rfl) (hC _ _ rfl) (by decide) (fun (g3 : (J2 145 0) = z1) => ?_) (fun (g3 : ¬ ((J2 145 0) = z1)) => False.elim (g3 (hz (by omega)).1))
    show Ev X k_L_law (2094, [some (vr 1000000), some (vr 0), some (vr 135), some (vr 145), some (vi (i : Int)), some (vi (t9 : Int)), some (vi z1)], []) (MS I2 J2 (cc + c9) (ss + 6 * c9)) _
    refine ev_nL hC (fr' := (2672, [some (vr 1000000), some (vr 0), some (vr 135), some (vr 145), some (vi (i : Int)), some (vi (t9 : Int)), some (vi z1)], [])) (S' := MS I2 J2 (cc + c9) (ss + 6 * c9)) 1 rfl ?_
    exact K _ _ _ _ _ hc hI
set_option maxRecDepth 100000 in
noncomputable def cl_alone : List (Nat × AI) := [(2097, .aload_n 1, 1, (0, 0, 0)), (2098, .aload_n 0, 1, (0, 0, 0)), (2099, .iload 4, 2, (0, 0, 0)), (2101, .iconst 1, 1, (0, 0, 0)), (2102, .iadd, 1, (0, 0, 0)), (2103, .iaload, 1, (0, 0, 0)), (2104, .aload_n 0, 1, (0, 0, 0)), (2105, .iload 4, 2, (0, 0, 0)), (2107, .iconst 2, 1, (0, 0, 0)), (2108, .iadd, 1, (0, 0, 0)), (2109, .iaload, 1, (0, 0, 0)), (2110, .aload_n 0, 1, (0, 0, 0)), (2111, .iload 4, 2, (0, 0, 0)), (2113, .iconst 3, 1, (0, 0, 0)), (2114, .iadd, 1, (0, 0, 0)), (2115, .iaload, 1, (0, 0, 0)), (2116, .aload_n 3, 1, (0, 0, 0)), (2117, .invokestatic 222, 3, (10, 273, 5)), (2120, .istore 5, 2, (0, 0, 0)), (2122, .aload_n 2, 1, (0, 0, 0)), (2123, .aload_n 0, 1, (0, 0, 0)), (2124, .iload 4, 2, (0, 0, 0)), (2126, .iconst 1, 1, (0, 0, 0)), (2127, .iadd, 1, (0, 0, 0)), (2128, .iaload, 1, (0, 0, 0)), (2129, .aload_n 0, 1, (0, 0, 0)), (2130, .iload 4, 2, (0, 0, 0)), (2132, .iconst 2, 1, (0, 0, 0)), (2133, .iadd, 1, (0, 0, 0)), (2134, .iaload, 1, (0, 0, 0)), (2135, .aload_n 0, 1, (0, 0, 0)), (2136, .iload 4, 2, (0, 0, 0)), (2138, .iconst 3, 1, (0, 0, 0)), (2139, .iadd, 1, (0, 0, 0)), (2140, .iaload, 1, (0, 0, 0)), (2141, .invokevirtual 224, 3, (1, 150, 3)), (2144, .istore 6, 2, (0, 0, 0)), (2146, .aload_n 2, 1, (0, 0, 0)), (2147, .invokevirtual 133, 3, (1, 56, 0)), (2150, .iload 5, 2, (0, 0, 0)), (2152, .if_icmp .eq 5, 3, (0, 0, 0)), (2155, .iconst 0, 1, (0, 0, 0)), (2156, .ireturn, 1, (1, 0, 0)), (2157, .iload 5, 2, (0, 0, 0)), (2159, .ifCond .ne 15, 3, (0, 0, 0)), (2162, .aload_n 3, 1, (0, 0, 0)), (2163, .iconst 0, 1, (0, 0, 0)), (2164, .laload, 1, (0, 0, 0)), (2165, .iload 6, 2, (0, 0, 0)), (2167, .i2l, 1, (0, 0, 0)), (2168, .lcmp, 1, (0, 0, 0)), (2169, .ifCond .eq 5, 3, (0, 0, 0)), (2172, .iconst 0, 1, (0, 0, 0)), (2173, .ireturn, 1, (1, 0, 0)), (2174, .goto 498, 3, (0, 0, 0))]
set_option maxRecDepth 100000 in
theorem ck_alone : lkS cl_alone k_L_law := lkS_of (by decide +kernel)
theorem lw_alone (X : AX) (I J : Nat → Nat → Int) (cc ss : Nat) {Q : (Option AV ⊕ Nat) → AS → Prop} (i : Nat) (hi : i + 6 ≤ X.1) (h72 : X.1 ≤ 3072) (v5 v6 : Option AV) (H : Two X k_L_alone k_X9_alone (0, [some (vr 0), some (vi (X.2 (i + 1))), some (vi (X.2 (i + 2))), some (vi (X.2 (i + 3))), some (vr 145), none], []) (0, [some (vr 135), some (vi (X.2 (i + 1))), some (vi (X.2 (i + 2))), some (vi (X.2 (i + 3)))], []) (fun _ => True) I J cc ss) (K : ∀ I' J' c v5 v6, c ≤ 1 → INV I' J' → Ev X k_L_law (2672, [some (vr 1000000), some (vr 0), some (vr 135), some (vr 145), some (vi (i : Int)), v5, v6], []) (MS I' J' (cc + c) (ss + 6 * c)) Q) : Ev X k_L_law (2097, [some (vr 1000000), some (vr 0), some (vr 135), some (vr 145), some (vi (i : Int)), v5, v6], []) (MS I J cc ss) (Q) := by
  have hC := ck_alone
  refine ev_nL hC (fr' := (2102, [some (vr 1000000), some (vr 0), some (vr 135), some (vr 145), some (vi (i : Int)), v5, v6], [vi 1, vi (i : Int), vr 1000000, vr 0])) (S' := MS I J cc ss) 4 rfl ?_
  refine ev_add (z := (i : Int) + 1) (hC _ _ rfl) (by omega) (by omega) (by omega) ?_
  show Ev X k_L_law (2103, [some (vr 1000000), some (vr 0), some (vr 135), some (vr 145), some (vi (i : Int)), v5, v6], [vi ((i : Int) + 1), vr 1000000, vr 0]) (MS I J cc ss) _
  refine ev_xsN (j := i + 1) (hC _ _ rfl) rfl (by omega) (by omega) rfl ?_
  show Ev X k_L_law (2104, [some (vr 1000000), some (vr 0), some (vr 135), some (vr 145), some (vi (i : Int)), v5, v6], [vi (X.2 (i + 1)), vr 0]) (MS I J cc ss) _
  refine ev_nL hC (fr' := (2108, [some (vr 1000000), some (vr 0), some (vr 135), some (vr 145), some (vi (i : Int)), v5, v6], [vi 2, vi (i : Int), vr 1000000, vi (X.2 (i + 1)), vr 0])) (S' := MS I J cc ss) 3 rfl ?_
  refine ev_add (z := (i : Int) + 2) (hC _ _ rfl) (by omega) (by omega) (by omega) ?_
  show Ev X k_L_law (2109, [some (vr 1000000), some (vr 0), some (vr 135), some (vr 145), some (vi (i : Int)), v5, v6], [vi ((i : Int) + 2), vr 1000000, vi (X.2 (i + 1)), vr 0]) (MS I J cc ss) _
  refine ev_xsN (j := i + 2) (hC _ _ rfl) rfl (by omega) (by omega) rfl ?_
  show Ev X k_L_law (2110, [some (vr 1000000), some (vr 0), some (vr 135), some (vr 145), some (vi (i : Int)), v5, v6], [vi (X.2 (i + 2)), vi (X.2 (i + 1)), vr 0]) (MS I J cc ss) _
  refine ev_nL hC (fr' := (2114, [some (vr 1000000), some (vr 0), some (vr 135), some (vr 145), some (vi (i : Int)), v5, v6], [vi 3, vi (i : Int), vr 1000000, vi (X.2 (i + 2)), vi (X.2 (i + 1)), vr 0])) (S' := MS I J cc ss) 3 rfl ?_
  refine ev_add (z := (i : Int) + 3) (hC _ _ rfl) (by omega) (by omega) (by omega) ?_
  show Ev X k_L_law (2115, [some (vr 1000000), some (vr 0), some (vr 135), some (vr 145), some (vi (i : Int)), v5, v6], [vi ((i : Int) + 3), vr 1000000, vi (X.2 (i + 2)), vi (X.2 (i + 1)), vr 0]) (MS I J cc ss) _
  refine ev_xsN (j := i + 3) (hC _ _ rfl) rfl (by omega) (by omega) rfl ?_
  show Ev X k_L_law (2116, [some (vr 1000000), some (vr 0), some (vr 135), some (vr 145), some (vi (i : Int)), v5, v6], [vi (X.2 (i + 3)), vi (X.2 (i + 2)), vi (X.2 (i + 1)), vr 0]) (MS I J cc ss) _
  refine ev_nL hC (fr' := (2117, [some (vr 1000000), some (vr 0), some (vr 135), some (vr 145), some (vi (i : Int)), v5, v6], [vr 145, vi (X.2 (i + 3)), vi (X.2 (i + 2)), vi (X.2 (i + 1)), vr 0])) (S' := MS I J cc ss) 1 rfl ?_
  refine ev_ct (hC _ _ rfl) rfl rfl ⟨Nat.le_of_ble_eq_true rfl, Nat.le_of_ble_eq_true rfl⟩ (H) (fun t9 c9 I1 J1 q1 => ?_)
  obtain ⟨hc, hr⟩ := q1
  show Ev X k_L_law (2120, [some (vr 1000000), some (vr 0), some (vr 135), some (vr 145), some (vi (i : Int)), v5, v6], [vi (t9 : Int)]) (MS I1 J1 (cc + c9) (ss + 6 * c9)) _
  refine ev_nL hC (fr' := (2127, [some (vr 1000000), some (vr 0), some (vr 135), some (vr 145), some (vi (i : Int)), some (vi (t9 : Int)), v6], [vi 1, vi (i : Int), vr 1000000, vr 135])) (S' := MS I1 J1 (cc + c9) (ss + 6 * c9)) 5 rfl ?_
  refine ev_add (z := (i : Int) + 1) (hC _ _ rfl) (by omega) (by omega) (by omega) ?_
  show Ev X k_L_law (2128, [some (vr 1000000), some (vr 0), some (vr 135), some (vr 145), some (vi (i : Int)), some (vi (t9 : Int)), v6], [vi ((i : Int) + 1), vr 1000000, vr 135]) (MS I1 J1 (cc + c9) (ss + 6 * c9)) _
  refine ev_xsN (j := i + 1) (hC _ _ rfl) rfl (by omega) (by omega) rfl ?_
  show Ev X k_L_law (2129, [some (vr 1000000), some (vr 0), some (vr 135), some (vr 145), some (vi (i : Int)), some (vi (t9 : Int)), v6], [vi (X.2 (i + 1)), vr 135]) (MS I1 J1 (cc + c9) (ss + 6 * c9)) _
  refine ev_nL hC (fr' := (2133, [some (vr 1000000), some (vr 0), some (vr 135), some (vr 145), some (vi (i : Int)), some (vi (t9 : Int)), v6], [vi 2, vi (i : Int), vr 1000000, vi (X.2 (i + 1)), vr 135])) (S' := MS I1 J1 (cc + c9) (ss + 6 * c9)) 3 rfl ?_
  refine ev_add (z := (i : Int) + 2) (hC _ _ rfl) (by omega) (by omega) (by omega) ?_
  show Ev X k_L_law (2134, [some (vr 1000000), some (vr 0), some (vr 135), some (vr 145), some (vi (i : Int)), some (vi (t9 : Int)), v6], [vi ((i : Int) + 2), vr 1000000, vi (X.2 (i + 1)), vr 135]) (MS I1 J1 (cc + c9) (ss + 6 * c9)) _
  refine ev_xsN (j := i + 2) (hC _ _ rfl) rfl (by omega) (by omega) rfl ?_
  show Ev X k_L_law (2135, [some (vr 1000000), some (vr 0), some (vr 135), some (vr 145), some (vi (i : Int)), some (vi (t9 : Int)), v6], [vi (X.2 (i + 2)), vi (X.2 (i + 1)), vr 135]) (MS I1 J1 (cc + c9) (ss + 6 * c9)) _
  refine ev_nL hC (fr' := (2139, [some (vr 1000000), some (vr 0), some (vr 135), some (vr 145), some (vi (i : Int)), some (vi (t9 : Int)), v6], [vi 3, vi (i : Int), vr 1000000, vi (X.2 (i + 2)), vi (X.2 (i + 1)), vr 135])) (S' := MS I1 J1 (cc + c9) (ss + 6 * c9)) 3 rfl ?_
  refine ev_add (z := (i : Int) + 3) (hC _ _ rfl) (by omega) (by omega) (by omega) ?_
  show Ev X k_L_law (2140, [some (vr 1000000), some (vr 0), some (vr 135), some (vr 145), some (vi (i : Int)), some (vi (t9 : Int)), v6], [vi ((i : Int) + 3), vr 1000000, vi (X.2 (i + 2)), vi (X.2 (i + 1)), vr 135]) (MS I1 J1 (cc + c9) (ss + 6 * c9)) _
  refine ev_xsN (j := i + 3) (hC _ _ rfl) rfl (by omega) (by omega) rfl ?_
  show Ev X k_L_law (2141, [some (vr 1000000), some (vr 0), some (vr 135), some (vr 145), some (vi (i : Int)), some (vi (t9 : Int)), v6], [vi (X.2 (i + 3)), vi (X.2 (i + 2)), vi (X.2 (i + 1)), vr 135]) (MS I1 J1 (cc + c9) (ss + 6 * c9)) _
  refine ev_cz (hC _ _ rfl) rfl rfl ⟨Nat.le_of_ble_eq_true rfl, Nat.le_of_ble_eq_true rfl⟩ (hr) (fun z1 I2 J2 q2 => ?_)
  obtain ⟨h4, hz, hI⟩ := q2
  show Ev X k_L_law (2144, [some (vr 1000000), some (vr 0), some (vr 135), some (vr 145), some (vi (i : Int)), some (vi (t9 : Int)), v6], [vi z1]) (MS I2 J2 (cc + c9) (ss + 6 * c9)) _
  refine ev_nL hC (fr' := (2147, [some (vr 1000000), some (vr 0), some (vr 135), some (vr 145), some (vi (i : Int)), some (vi (t9 : Int)), some (vi z1)], [vr 135])) (S' := MS I2 J2 (cc + c9) (ss + 6 * c9)) 2 rfl ?_
  refine ev_cv (hC _ _ rfl) rfl rfl ⟨Nat.le_of_ble_eq_true rfl, Nat.le_of_ble_eq_true rfl⟩ (sp_thrown X _ _ _ _ h4) ?_
  show Ev X k_L_law (2150, [some (vr 1000000), some (vr 0), some (vr 135), some (vr 145), some (vi (i : Int)), some (vi (t9 : Int)), some (vi z1)], [vi (t9 : Int)]) (MS I2 J2 (cc + c9) (ss + 6 * c9)) _
  refine ev_nL hC (fr' := (2152, [some (vr 1000000), some (vr 0), some (vr 135), some (vr 145), some (vi (i : Int)), some (vi (t9 : Int)), some (vi z1)], [vi (t9 : Int), vi (t9 : Int)])) (S' := MS I2 J2 (cc + c9) (ss + 6 * c9)) 1 rfl ?_
  refine ev_ic (c := .eq) (off := 5) (hC _ _ rfl) (by decide) (fun (g1 : (t9 : Int) = (t9 : Int)) => ?_) (fun (g1 : ¬ ((t9 : Int) = (t9 : Int))) => False.elim (g1 rfl))
  show Ev X k_L_law (2157, [some (vr 1000000), some (vr 0), some (vr 135), some (vr 145), some (vi (i : Int)), some (vi (t9 : Int)), some (vi z1)], []) (MS I2 J2 (cc + c9) (ss + 6 * c9)) _
  refine ev_nL hC (fr' := (2159, [some (vr 1000000), some (vr 0), some (vr 135), some (vr 145), some (vi (i : Int)), some (vi (t9 : Int)), some (vi z1)], [vi (t9 : Int)])) (S' := MS I2 J2 (cc + c9) (ss + 6 * c9)) 1 rfl ?_
  refine ev_if (c := .ne) (off := 15) (hC _ _ rfl) (by decide) (fun (g2 : (t9 : Int) ≠ 0) => ?_) (fun (g2 : ¬ ((t9 : Int) ≠ 0)) => ?_)
  · show Ev X k_L_law (2174, [some (vr 1000000), some (vr 0), some (vr 135), some (vr 145), some (vi (i : Int)), some (vi (t9 : Int)), some (vi z1)], []) (MS I2 J2 (cc + c9) (ss + 6 * c9)) _
    refine ev_nL hC (fr' := (2672, [some (vr 1000000), some (vr 0), some (vr 135), some (vr 145), some (vi (i : Int)), some (vi (t9 : Int)), some (vi z1)], [])) (S' := MS I2 J2 (cc + c9) (ss + 6 * c9)) 1 rfl ?_
    exact K _ _ _ _ _ hc hI
  · show Ev X k_L_law (2162, [some (vr 1000000), some (vr 0), some (vr 135), some (vr 145), some (vi (i : Int)), some (vi (t9 : Int)), some (vi z1)], []) (MS I2 J2 (cc + c9) (ss + 6 * c9)) _
    refine ev_nL hC (fr' := (2164, [some (vr 1000000), some (vr 0), some (vr 135), some (vr 145), some (vi (i : Int)), some (vi (t9 : Int)), some (vi z1)], [vi 0, vr 145])) (S' := MS I2 J2 (cc + c9) (ss + 6 * c9)) 2 rfl ?_
    refine ev_laN (j := 0) (z := (J2 145 0)) (hC _ _ rfl) rfl (by omega) (by omega) (rfl) ?_
    show Ev X k_L_law (2165, [some (vr 1000000), some (vr 0), some (vr 135), some (vr 145), some (vi (i : Int)), some (vi (t9 : Int)), some (vi z1)], [vl (J2 145 0)]) (MS I2 J2 (cc + c9) (ss + 6 * c9)) _
    refine ev_nL hC (fr' := (2168, [some (vr 1000000), some (vr 0), some (vr 135), some (vr 145), some (vi (i : Int)), some (vi (t9 : Int)), some (vi z1)], [vl z1, vl (J2 145 0)])) (S' := MS I2 J2 (cc + c9) (ss + 6 * c9)) 2 rfl ?_
    refine ev_lc (c := .eq) (off := 5) (hC _ _ rfl) (hC _ _ rfl) (by decide) (fun (g3 : (J2 145 0) = z1) => ?_) (fun (g3 : ¬ ((J2 145 0) = z1)) => False.elim (g3 (hz (by omega)).1))
    show Ev X k_L_law (2174, [some (vr 1000000), some (vr 0), some (vr 135), some (vr 145), some (vi (i : Int)), some (vi (t9 : Int)), some (vi z1)], []) (MS I2 J2 (cc + c9) (ss + 6 * c9)) _
    refine ev_nL hC (fr' := (2672, [some (vr 1000000), some (vr 0), some (vr 135), some (vr 145), some (vi (i : Int)), some (vi (t9 : Int)), some (vi z1)], [])) (S' := MS I2 J2 (cc + c9) (ss + 6 * c9)) 1 rfl ?_
    exact K _ _ _ _ _ hc hI
set_option maxRecDepth 100000 in
noncomputable def cl_keepsTopology : List (Nat × AI) := [(2177, .aload_n 1, 1, (0, 0, 0)), (2178, .aload_n 0, 1, (0, 0, 0)), (2179, .iload 4, 2, (0, 0, 0)), (2181, .iconst 1, 1, (0, 0, 0)), (2182, .iadd, 1, (0, 0, 0)), (2183, .iaload, 1, (0, 0, 0)), (2184, .aload_n 3, 1, (0, 0, 0)), (2185, .invokestatic 225, 3, (10, 274, 3)), (2188, .istore 5, 2, (0, 0, 0)), (2190, .aload_n 2, 1, (0, 0, 0)), (2191, .aload_n 0, 1, (0, 0, 0)), (2192, .iload 4, 2, (0, 0, 0)), (2194, .iconst 1, 1, (0, 0, 0)), (2195, .iadd, 1, (0, 0, 0)), (2196, .iaload, 1, (0, 0, 0)), (2197, .invokevirtual 227, 3, (1, 152, 1)), (2200, .istore 6, 2, (0, 0, 0)), (2202, .aload_n 2, 1, (0, 0, 0)), (2203, .invokevirtual 133, 3, (1, 56, 0)), (2206, .iload 5, 2, (0, 0, 0)), (2208, .if_icmp .eq 5, 3, (0, 0, 0)), (2211, .iconst 0, 1, (0, 0, 0)), (2212, .ireturn, 1, (1, 0, 0)), (2213, .iload 5, 2, (0, 0, 0)), (2215, .ifCond .ne 22, 3, (0, 0, 0)), (2218, .aload_n 3, 1, (0, 0, 0)), (2219, .iconst 0, 1, (0, 0, 0)), (2220, .laload, 1, (0, 0, 0)), (2221, .iload 6, 2, (0, 0, 0)), (2223, .ifCond .eq 7, 3, (0, 0, 0)), (2226, .lconst 1, 1, (0, 0, 0)), (2227, .goto 4, 3, (0, 0, 0)), (2230, .lconst 0, 1, (0, 0, 0)), (2231, .lcmp, 1, (0, 0, 0)), (2232, .ifCond .eq 5, 3, (0, 0, 0)), (2235, .iconst 0, 1, (0, 0, 0)), (2236, .ireturn, 1, (1, 0, 0)), (2237, .goto 435, 3, (0, 0, 0))]
set_option maxRecDepth 100000 in
theorem ck_keepsTopology : lkS cl_keepsTopology k_L_law := lkS_of (by decide +kernel)
theorem lw_keepsTopology (X : AX) (I J : Nat → Nat → Int) (cc ss : Nat) {Q : (Option AV ⊕ Nat) → AS → Prop} (i : Nat) (hi : i + 6 ≤ X.1) (h72 : X.1 ≤ 3072) (v5 v6 : Option AV) (H : Two X k_L_keepsTopology k_X9_keepsTopology (0, [some (vr 0), some (vi (X.2 (i + 1))), some (vr 145), none], []) (0, [some (vr 135), some (vi (X.2 (i + 1))), none], []) (fun r => r = 0 ∨ r = 1) I J cc ss) (K : ∀ I' J' c v5 v6, c ≤ 1 → INV I' J' → Ev X k_L_law (2672, [some (vr 1000000), some (vr 0), some (vr 135), some (vr 145), some (vi (i : Int)), v5, v6], []) (MS I' J' (cc + c) (ss + 6 * c)) Q) : Ev X k_L_law (2177, [some (vr 1000000), some (vr 0), some (vr 135), some (vr 145), some (vi (i : Int)), v5, v6], []) (MS I J cc ss) (Q) := by
  have hC := ck_keepsTopology
  refine ev_nL hC (fr' := (2182, [some (vr 1000000), some (vr 0), some (vr 135), some (vr 145), some (vi (i : Int)), v5, v6], [vi 1, vi (i : Int), vr 1000000, vr 0])) (S' := MS I J cc ss) 4 rfl ?_
  refine ev_add (z := (i : Int) + 1) (hC _ _ rfl) (by omega) (by omega) (by omega) ?_
  show Ev X k_L_law (2183, [some (vr 1000000), some (vr 0), some (vr 135), some (vr 145), some (vi (i : Int)), v5, v6], [vi ((i : Int) + 1), vr 1000000, vr 0]) (MS I J cc ss) _
  refine ev_xsN (j := i + 1) (hC _ _ rfl) rfl (by omega) (by omega) rfl ?_
  show Ev X k_L_law (2184, [some (vr 1000000), some (vr 0), some (vr 135), some (vr 145), some (vi (i : Int)), v5, v6], [vi (X.2 (i + 1)), vr 0]) (MS I J cc ss) _
  refine ev_nL hC (fr' := (2185, [some (vr 1000000), some (vr 0), some (vr 135), some (vr 145), some (vi (i : Int)), v5, v6], [vr 145, vi (X.2 (i + 1)), vr 0])) (S' := MS I J cc ss) 1 rfl ?_
  refine ev_ct (hC _ _ rfl) rfl rfl ⟨Nat.le_of_ble_eq_true rfl, Nat.le_of_ble_eq_true rfl⟩ (H) (fun t9 c9 I1 J1 q1 => ?_)
  obtain ⟨hc, hr⟩ := q1
  show Ev X k_L_law (2188, [some (vr 1000000), some (vr 0), some (vr 135), some (vr 145), some (vi (i : Int)), v5, v6], [vi (t9 : Int)]) (MS I1 J1 (cc + c9) (ss + 6 * c9)) _
  refine ev_nL hC (fr' := (2195, [some (vr 1000000), some (vr 0), some (vr 135), some (vr 145), some (vi (i : Int)), some (vi (t9 : Int)), v6], [vi 1, vi (i : Int), vr 1000000, vr 135])) (S' := MS I1 J1 (cc + c9) (ss + 6 * c9)) 5 rfl ?_
  refine ev_add (z := (i : Int) + 1) (hC _ _ rfl) (by omega) (by omega) (by omega) ?_
  show Ev X k_L_law (2196, [some (vr 1000000), some (vr 0), some (vr 135), some (vr 145), some (vi (i : Int)), some (vi (t9 : Int)), v6], [vi ((i : Int) + 1), vr 1000000, vr 135]) (MS I1 J1 (cc + c9) (ss + 6 * c9)) _
  refine ev_xsN (j := i + 1) (hC _ _ rfl) rfl (by omega) (by omega) rfl ?_
  show Ev X k_L_law (2197, [some (vr 1000000), some (vr 0), some (vr 135), some (vr 145), some (vi (i : Int)), some (vi (t9 : Int)), v6], [vi (X.2 (i + 1)), vr 135]) (MS I1 J1 (cc + c9) (ss + 6 * c9)) _
  refine ev_cz (hC _ _ rfl) rfl rfl ⟨Nat.le_of_ble_eq_true rfl, Nat.le_of_ble_eq_true rfl⟩ (hr) (fun z1 I2 J2 q2 => ?_)
  obtain ⟨h4, hz, hI⟩ := q2
  show Ev X k_L_law (2200, [some (vr 1000000), some (vr 0), some (vr 135), some (vr 145), some (vi (i : Int)), some (vi (t9 : Int)), v6], [vi z1]) (MS I2 J2 (cc + c9) (ss + 6 * c9)) _
  have hz : t9 = 0 → J2 145 0 = z1 ∧ (z1 = 0 ∨ z1 = 1) := hz
  refine ev_nL hC (fr' := (2203, [some (vr 1000000), some (vr 0), some (vr 135), some (vr 145), some (vi (i : Int)), some (vi (t9 : Int)), some (vi z1)], [vr 135])) (S' := MS I2 J2 (cc + c9) (ss + 6 * c9)) 2 rfl ?_
  refine ev_cv (hC _ _ rfl) rfl rfl ⟨Nat.le_of_ble_eq_true rfl, Nat.le_of_ble_eq_true rfl⟩ (sp_thrown X _ _ _ _ h4) ?_
  show Ev X k_L_law (2206, [some (vr 1000000), some (vr 0), some (vr 135), some (vr 145), some (vi (i : Int)), some (vi (t9 : Int)), some (vi z1)], [vi (t9 : Int)]) (MS I2 J2 (cc + c9) (ss + 6 * c9)) _
  refine ev_nL hC (fr' := (2208, [some (vr 1000000), some (vr 0), some (vr 135), some (vr 145), some (vi (i : Int)), some (vi (t9 : Int)), some (vi z1)], [vi (t9 : Int), vi (t9 : Int)])) (S' := MS I2 J2 (cc + c9) (ss + 6 * c9)) 1 rfl ?_
  refine ev_ic (c := .eq) (off := 5) (hC _ _ rfl) (by decide) (fun (g1 : (t9 : Int) = (t9 : Int)) => ?_) (fun (g1 : ¬ ((t9 : Int) = (t9 : Int))) => False.elim (g1 rfl))
  show Ev X k_L_law (2213, [some (vr 1000000), some (vr 0), some (vr 135), some (vr 145), some (vi (i : Int)), some (vi (t9 : Int)), some (vi z1)], []) (MS I2 J2 (cc + c9) (ss + 6 * c9)) _
  refine ev_nL hC (fr' := (2215, [some (vr 1000000), some (vr 0), some (vr 135), some (vr 145), some (vi (i : Int)), some (vi (t9 : Int)), some (vi z1)], [vi (t9 : Int)])) (S' := MS I2 J2 (cc + c9) (ss + 6 * c9)) 1 rfl ?_
  refine ev_if (c := .ne) (off := 22) (hC _ _ rfl) (by decide) (fun (g2 : (t9 : Int) ≠ 0) => ?_) (fun (g2 : ¬ ((t9 : Int) ≠ 0)) => ?_)
  · show Ev X k_L_law (2237, [some (vr 1000000), some (vr 0), some (vr 135), some (vr 145), some (vi (i : Int)), some (vi (t9 : Int)), some (vi z1)], []) (MS I2 J2 (cc + c9) (ss + 6 * c9)) _
    refine ev_nL hC (fr' := (2672, [some (vr 1000000), some (vr 0), some (vr 135), some (vr 145), some (vi (i : Int)), some (vi (t9 : Int)), some (vi z1)], [])) (S' := MS I2 J2 (cc + c9) (ss + 6 * c9)) 1 rfl ?_
    exact K _ _ _ _ _ hc hI
  · show Ev X k_L_law (2218, [some (vr 1000000), some (vr 0), some (vr 135), some (vr 145), some (vi (i : Int)), some (vi (t9 : Int)), some (vi z1)], []) (MS I2 J2 (cc + c9) (ss + 6 * c9)) _
    refine ev_nL hC (fr' := (2220, [some (vr 1000000), some (vr 0), some (vr 135), some (vr 145), some (vi (i : Int)), some (vi (t9 : Int)), some (vi z1)], [vi 0, vr 145])) (S' := MS I2 J2 (cc + c9) (ss + 6 * c9)) 2 rfl ?_
    refine ev_laN (j := 0) (z := (J2 145 0)) (hC _ _ rfl) rfl (by omega) (by omega) (rfl) ?_
    show Ev X k_L_law (2221, [some (vr 1000000), some (vr 0), some (vr 135), some (vr 145), some (vi (i : Int)), some (vi (t9 : Int)), some (vi z1)], [vl (J2 145 0)]) (MS I2 J2 (cc + c9) (ss + 6 * c9)) _
    refine ev_nL hC (fr' := (2223, [some (vr 1000000), some (vr 0), some (vr 135), some (vr 145), some (vi (i : Int)), some (vi (t9 : Int)), some (vi z1)], [vi z1, vl (J2 145 0)])) (S' := MS I2 J2 (cc + c9) (ss + 6 * c9)) 1 rfl ?_
    refine ev_if (c := .eq) (off := 7) (hC _ _ rfl) (by decide) (fun (g3 : z1 = 0) => ?_) (fun (g3 : ¬ (z1 = 0)) => ?_)
    · show Ev X k_L_law (2230, [some (vr 1000000), some (vr 0), some (vr 135), some (vr 145), some (vi (i : Int)), some (vi (t9 : Int)), some (vi z1)], [vl (J2 145 0)]) (MS I2 J2 (cc + c9) (ss + 6 * c9)) _
      refine ev_nL hC (fr' := (2231, [some (vr 1000000), some (vr 0), some (vr 135), some (vr 145), some (vi (i : Int)), some (vi (t9 : Int)), some (vi z1)], [vl 0, vl (J2 145 0)])) (S' := MS I2 J2 (cc + c9) (ss + 6 * c9)) 1 rfl ?_
      refine ev_lc (c := .eq) (off := 5) (hC _ _ rfl) (hC _ _ rfl) (by decide) (fun (g4 : (J2 145 0) = 0) => ?_) (fun (g4 : ¬ ((J2 145 0) = 0)) => False.elim (by have q9 := hz (by omega); omega))
      show Ev X k_L_law (2237, [some (vr 1000000), some (vr 0), some (vr 135), some (vr 145), some (vi (i : Int)), some (vi (t9 : Int)), some (vi z1)], []) (MS I2 J2 (cc + c9) (ss + 6 * c9)) _
      refine ev_nL hC (fr' := (2672, [some (vr 1000000), some (vr 0), some (vr 135), some (vr 145), some (vi (i : Int)), some (vi (t9 : Int)), some (vi z1)], [])) (S' := MS I2 J2 (cc + c9) (ss + 6 * c9)) 1 rfl ?_
      exact K _ _ _ _ _ hc hI
    · show Ev X k_L_law (2226, [some (vr 1000000), some (vr 0), some (vr 135), some (vr 145), some (vi (i : Int)), some (vi (t9 : Int)), some (vi z1)], [vl (J2 145 0)]) (MS I2 J2 (cc + c9) (ss + 6 * c9)) _
      refine ev_nL hC (fr' := (2231, [some (vr 1000000), some (vr 0), some (vr 135), some (vr 145), some (vi (i : Int)), some (vi (t9 : Int)), some (vi z1)], [vl 1, vl (J2 145 0)])) (S' := MS I2 J2 (cc + c9) (ss + 6 * c9)) 2 rfl ?_
      refine ev_lc (c := .eq) (off := 5) (hC _ _ rfl) (hC _ _ rfl) (by decide) (fun (g5 : (J2 145 0) = 1) => ?_) (fun (g5 : ¬ ((J2 145 0) = 1)) => False.elim (by have q9 := hz (by omega); omega))
      show Ev X k_L_law (2237, [some (vr 1000000), some (vr 0), some (vr 135), some (vr 145), some (vi (i : Int)), some (vi (t9 : Int)), some (vi z1)], []) (MS I2 J2 (cc + c9) (ss + 6 * c9)) _
      refine ev_nL hC (fr' := (2672, [some (vr 1000000), some (vr 0), some (vr 135), some (vr 145), some (vi (i : Int)), some (vi (t9 : Int)), some (vi z1)], [])) (S' := MS I2 J2 (cc + c9) (ss + 6 * c9)) 1 rfl ?_
      exact K _ _ _ _ _ hc hI
set_option maxRecDepth 100000 in
noncomputable def cl_smallest : List (Nat × AI) := [(2240, .aload_n 1, 1, (0, 0, 0)), (2241, .aload_n 0, 1, (0, 0, 0)), (2242, .iload 4, 2, (0, 0, 0)), (2244, .iconst 1, 1, (0, 0, 0)), (2245, .iadd, 1, (0, 0, 0)), (2246, .iaload, 1, (0, 0, 0)), (2247, .aload_n 3, 1, (0, 0, 0)), (2248, .invokestatic 228, 3, (10, 275, 3)), (2251, .istore 5, 2, (0, 0, 0)), (2253, .aload_n 2, 1, (0, 0, 0)), (2254, .aload_n 0, 1, (0, 0, 0)), (2255, .iload 4, 2, (0, 0, 0)), (2257, .iconst 1, 1, (0, 0, 0)), (2258, .iadd, 1, (0, 0, 0)), (2259, .iaload, 1, (0, 0, 0)), (2260, .invokevirtual 230, 3, (1, 153, 1)), (2263, .istore 6, 2, (0, 0, 0)), (2265, .aload_n 2, 1, (0, 0, 0)), (2266, .invokevirtual 133, 3, (1, 56, 0)), (2269, .iload 5, 2, (0, 0, 0)), (2271, .if_icmp .eq 5, 3, (0, 0, 0)), (2274, .iconst 0, 1, (0, 0, 0)), (2275, .ireturn, 1, (1, 0, 0)), (2276, .iload 5, 2, (0, 0, 0)), (2278, .ifCond .ne 15, 3, (0, 0, 0)), (2281, .aload_n 3, 1, (0, 0, 0)), (2282, .iconst 0, 1, (0, 0, 0)), (2283, .laload, 1, (0, 0, 0)), (2284, .iload 6, 2, (0, 0, 0)), (2286, .i2l, 1, (0, 0, 0)), (2287, .lcmp, 1, (0, 0, 0)), (2288, .ifCond .eq 5, 3, (0, 0, 0)), (2291, .iconst 0, 1, (0, 0, 0)), (2292, .ireturn, 1, (1, 0, 0)), (2293, .goto 379, 3, (0, 0, 0))]
set_option maxRecDepth 100000 in
theorem ck_smallest : lkS cl_smallest k_L_law := lkS_of (by decide +kernel)
theorem lw_smallest (X : AX) (I J : Nat → Nat → Int) (cc ss : Nat) {Q : (Option AV ⊕ Nat) → AS → Prop} (i : Nat) (hi : i + 6 ≤ X.1) (h72 : X.1 ≤ 3072) (v5 v6 : Option AV) (H : Two X k_L_smallest k_X9_smallest (0, [some (vr 0), some (vi (X.2 (i + 1))), some (vr 145), none], []) (0, [some (vr 135), some (vi (X.2 (i + 1))), none, none], []) (fun _ => True) I J cc ss) (K : ∀ I' J' c v5 v6, c ≤ 1 → INV I' J' → Ev X k_L_law (2672, [some (vr 1000000), some (vr 0), some (vr 135), some (vr 145), some (vi (i : Int)), v5, v6], []) (MS I' J' (cc + c) (ss + 6 * c)) Q) : Ev X k_L_law (2240, [some (vr 1000000), some (vr 0), some (vr 135), some (vr 145), some (vi (i : Int)), v5, v6], []) (MS I J cc ss) (Q) := by
  have hC := ck_smallest
  refine ev_nL hC (fr' := (2245, [some (vr 1000000), some (vr 0), some (vr 135), some (vr 145), some (vi (i : Int)), v5, v6], [vi 1, vi (i : Int), vr 1000000, vr 0])) (S' := MS I J cc ss) 4 rfl ?_
  refine ev_add (z := (i : Int) + 1) (hC _ _ rfl) (by omega) (by omega) (by omega) ?_
  show Ev X k_L_law (2246, [some (vr 1000000), some (vr 0), some (vr 135), some (vr 145), some (vi (i : Int)), v5, v6], [vi ((i : Int) + 1), vr 1000000, vr 0]) (MS I J cc ss) _
  refine ev_xsN (j := i + 1) (hC _ _ rfl) rfl (by omega) (by omega) rfl ?_
  show Ev X k_L_law (2247, [some (vr 1000000), some (vr 0), some (vr 135), some (vr 145), some (vi (i : Int)), v5, v6], [vi (X.2 (i + 1)), vr 0]) (MS I J cc ss) _
  refine ev_nL hC (fr' := (2248, [some (vr 1000000), some (vr 0), some (vr 135), some (vr 145), some (vi (i : Int)), v5, v6], [vr 145, vi (X.2 (i + 1)), vr 0])) (S' := MS I J cc ss) 1 rfl ?_
  refine ev_ct (hC _ _ rfl) rfl rfl ⟨Nat.le_of_ble_eq_true rfl, Nat.le_of_ble_eq_true rfl⟩ (H) (fun t9 c9 I1 J1 q1 => ?_)
  obtain ⟨hc, hr⟩ := q1
  show Ev X k_L_law (2251, [some (vr 1000000), some (vr 0), some (vr 135), some (vr 145), some (vi (i : Int)), v5, v6], [vi (t9 : Int)]) (MS I1 J1 (cc + c9) (ss + 6 * c9)) _
  refine ev_nL hC (fr' := (2258, [some (vr 1000000), some (vr 0), some (vr 135), some (vr 145), some (vi (i : Int)), some (vi (t9 : Int)), v6], [vi 1, vi (i : Int), vr 1000000, vr 135])) (S' := MS I1 J1 (cc + c9) (ss + 6 * c9)) 5 rfl ?_
  refine ev_add (z := (i : Int) + 1) (hC _ _ rfl) (by omega) (by omega) (by omega) ?_
  show Ev X k_L_law (2259, [some (vr 1000000), some (vr 0), some (vr 135), some (vr 145), some (vi (i : Int)), some (vi (t9 : Int)), v6], [vi ((i : Int) + 1), vr 1000000, vr 135]) (MS I1 J1 (cc + c9) (ss + 6 * c9)) _
  refine ev_xsN (j := i + 1) (hC _ _ rfl) rfl (by omega) (by omega) rfl ?_
  show Ev X k_L_law (2260, [some (vr 1000000), some (vr 0), some (vr 135), some (vr 145), some (vi (i : Int)), some (vi (t9 : Int)), v6], [vi (X.2 (i + 1)), vr 135]) (MS I1 J1 (cc + c9) (ss + 6 * c9)) _
  refine ev_cz (hC _ _ rfl) rfl rfl ⟨Nat.le_of_ble_eq_true rfl, Nat.le_of_ble_eq_true rfl⟩ (hr) (fun z1 I2 J2 q2 => ?_)
  obtain ⟨h4, hz, hI⟩ := q2
  show Ev X k_L_law (2263, [some (vr 1000000), some (vr 0), some (vr 135), some (vr 145), some (vi (i : Int)), some (vi (t9 : Int)), v6], [vi z1]) (MS I2 J2 (cc + c9) (ss + 6 * c9)) _
  refine ev_nL hC (fr' := (2266, [some (vr 1000000), some (vr 0), some (vr 135), some (vr 145), some (vi (i : Int)), some (vi (t9 : Int)), some (vi z1)], [vr 135])) (S' := MS I2 J2 (cc + c9) (ss + 6 * c9)) 2 rfl ?_
  refine ev_cv (hC _ _ rfl) rfl rfl ⟨Nat.le_of_ble_eq_true rfl, Nat.le_of_ble_eq_true rfl⟩ (sp_thrown X _ _ _ _ h4) ?_
  show Ev X k_L_law (2269, [some (vr 1000000), some (vr 0), some (vr 135), some (vr 145), some (vi (i : Int)), some (vi (t9 : Int)), some (vi z1)], [vi (t9 : Int)]) (MS I2 J2 (cc + c9) (ss + 6 * c9)) _
  refine ev_nL hC (fr' := (2271, [some (vr 1000000), some (vr 0), some (vr 135), some (vr 145), some (vi (i : Int)), some (vi (t9 : Int)), some (vi z1)], [vi (t9 : Int), vi (t9 : Int)])) (S' := MS I2 J2 (cc + c9) (ss + 6 * c9)) 1 rfl ?_
  refine ev_ic (c := .eq) (off := 5) (hC _ _ rfl) (by decide) (fun (g1 : (t9 : Int) = (t9 : Int)) => ?_) (fun (g1 : ¬ ((t9 : Int) = (t9 : Int))) => False.elim (g1 rfl))
  show Ev X k_L_law (2276, [some (vr 1000000), some (vr 0), some (vr 135), some (vr 145), some (vi (i : Int)), some (vi (t9 : Int)), some (vi z1)], []) (MS I2 J2 (cc + c9) (ss + 6 * c9)) _
  refine ev_nL hC (fr' := (2278, [some (vr 1000000), some (vr 0), some (vr 135), some (vr 145), some (vi (i : Int)), some (vi (t9 : Int)), some (vi z1)], [vi (t9 : Int)])) (S' := MS I2 J2 (cc + c9) (ss + 6 * c9)) 1 rfl ?_
  refine ev_if (c := .ne) (off := 15) (hC _ _ rfl) (by decide) (fun (g2 : (t9 : Int) ≠ 0) => ?_) (fun (g2 : ¬ ((t9 : Int) ≠ 0)) => ?_)
  · show Ev X k_L_law (2293, [some (vr 1000000), some (vr 0), some (vr 135), some (vr 145), some (vi (i : Int)), some (vi (t9 : Int)), some (vi z1)], []) (MS I2 J2 (cc + c9) (ss + 6 * c9)) _
    refine ev_nL hC (fr' := (2672, [some (vr 1000000), some (vr 0), some (vr 135), some (vr 145), some (vi (i : Int)), some (vi (t9 : Int)), some (vi z1)], [])) (S' := MS I2 J2 (cc + c9) (ss + 6 * c9)) 1 rfl ?_
    exact K _ _ _ _ _ hc hI
  · show Ev X k_L_law (2281, [some (vr 1000000), some (vr 0), some (vr 135), some (vr 145), some (vi (i : Int)), some (vi (t9 : Int)), some (vi z1)], []) (MS I2 J2 (cc + c9) (ss + 6 * c9)) _
    refine ev_nL hC (fr' := (2283, [some (vr 1000000), some (vr 0), some (vr 135), some (vr 145), some (vi (i : Int)), some (vi (t9 : Int)), some (vi z1)], [vi 0, vr 145])) (S' := MS I2 J2 (cc + c9) (ss + 6 * c9)) 2 rfl ?_
    refine ev_laN (j := 0) (z := (J2 145 0)) (hC _ _ rfl) rfl (by omega) (by omega) (rfl) ?_
    show Ev X k_L_law (2284, [some (vr 1000000), some (vr 0), some (vr 135), some (vr 145), some (vi (i : Int)), some (vi (t9 : Int)), some (vi z1)], [vl (J2 145 0)]) (MS I2 J2 (cc + c9) (ss + 6 * c9)) _
    refine ev_nL hC (fr' := (2287, [some (vr 1000000), some (vr 0), some (vr 135), some (vr 145), some (vi (i : Int)), some (vi (t9 : Int)), some (vi z1)], [vl z1, vl (J2 145 0)])) (S' := MS I2 J2 (cc + c9) (ss + 6 * c9)) 2 rfl ?_
    refine ev_lc (c := .eq) (off := 5) (hC _ _ rfl) (hC _ _ rfl) (by decide) (fun (g3 : (J2 145 0) = z1) => ?_) (fun (g3 : ¬ ((J2 145 0) = z1)) => False.elim (g3 (hz (by omega)).1))
    show Ev X k_L_law (2293, [some (vr 1000000), some (vr 0), some (vr 135), some (vr 145), some (vi (i : Int)), some (vi (t9 : Int)), some (vi z1)], []) (MS I2 J2 (cc + c9) (ss + 6 * c9)) _
    refine ev_nL hC (fr' := (2672, [some (vr 1000000), some (vr 0), some (vr 135), some (vr 145), some (vi (i : Int)), some (vi (t9 : Int)), some (vi z1)], [])) (S' := MS I2 J2 (cc + c9) (ss + 6 * c9)) 1 rfl ?_
    exact K _ _ _ _ _ hc hI
set_option maxRecDepth 100000 in
noncomputable def cl_extreme : List (Nat × AI) := [(2296, .aload_n 1, 1, (0, 0, 0)), (2297, .aload_n 0, 1, (0, 0, 0)), (2298, .iload 4, 2, (0, 0, 0)), (2300, .iconst 1, 1, (0, 0, 0)), (2301, .iadd, 1, (0, 0, 0)), (2302, .iaload, 1, (0, 0, 0)), (2303, .aload_n 0, 1, (0, 0, 0)), (2304, .iload 4, 2, (0, 0, 0)), (2306, .iconst 2, 1, (0, 0, 0)), (2307, .iadd, 1, (0, 0, 0)), (2308, .iaload, 1, (0, 0, 0)), (2309, .ifCond .eq 7, 3, (0, 0, 0)), (2312, .iconst 1, 1, (0, 0, 0)), (2313, .goto 4, 3, (0, 0, 0)), (2316, .iconst 0, 1, (0, 0, 0)), (2317, .aload_n 3, 1, (0, 0, 0)), (2318, .invokestatic 231, 3, (10, 276, 4)), (2321, .istore 5, 2, (0, 0, 0)), (2323, .aload_n 2, 1, (0, 0, 0)), (2324, .aload_n 0, 1, (0, 0, 0)), (2325, .iload 4, 2, (0, 0, 0)), (2327, .iconst 1, 1, (0, 0, 0)), (2328, .iadd, 1, (0, 0, 0)), (2329, .iaload, 1, (0, 0, 0)), (2330, .aload_n 0, 1, (0, 0, 0)), (2331, .iload 4, 2, (0, 0, 0)), (2333, .iconst 2, 1, (0, 0, 0)), (2334, .iadd, 1, (0, 0, 0)), (2335, .iaload, 1, (0, 0, 0)), (2336, .ifCond .eq 7, 3, (0, 0, 0)), (2339, .iconst 1, 1, (0, 0, 0)), (2340, .goto 4, 3, (0, 0, 0)), (2343, .iconst 0, 1, (0, 0, 0)), (2344, .invokevirtual 234, 3, (1, 154, 2)), (2347, .istore 6, 2, (0, 0, 0)), (2349, .aload_n 2, 1, (0, 0, 0)), (2350, .invokevirtual 133, 3, (1, 56, 0)), (2353, .iload 5, 2, (0, 0, 0)), (2355, .if_icmp .eq 5, 3, (0, 0, 0)), (2358, .iconst 0, 1, (0, 0, 0)), (2359, .ireturn, 1, (1, 0, 0)), (2360, .iload 5, 2, (0, 0, 0)), (2362, .ifCond .ne 15, 3, (0, 0, 0)), (2365, .aload_n 3, 1, (0, 0, 0)), (2366, .iconst 0, 1, (0, 0, 0)), (2367, .laload, 1, (0, 0, 0)), (2368, .iload 6, 2, (0, 0, 0)), (2370, .i2l, 1, (0, 0, 0)), (2371, .lcmp, 1, (0, 0, 0)), (2372, .ifCond .eq 5, 3, (0, 0, 0)), (2375, .iconst 0, 1, (0, 0, 0)), (2376, .ireturn, 1, (1, 0, 0)), (2377, .goto 295, 3, (0, 0, 0))]
set_option maxRecDepth 100000 in
theorem ck_extreme : lkS cl_extreme k_L_law := lkS_of (by decide +kernel)
theorem lw_extreme_0 (X : AX) (I J : Nat → Nat → Int) (cc ss : Nat) {Q : (Option AV ⊕ Nat) → AS → Prop} (i : Nat) (hi : i + 6 ≤ X.1) (h72 : X.1 ≤ 3072) (v5 v6 : Option AV) (hb : X.2 (i + 2) = 0) (H : Two X k_L_extreme k_X9_extreme (0, [some (vr 0), some (vi (X.2 (i + 1))), some (vi 0), some (vr 145), none], []) (0, [some (vr 135), some (vi (X.2 (i + 1))), some (vi 0), none, none, none, none], []) (fun _ => True) I J cc ss) (K : ∀ I' J' c v5 v6, c ≤ 1 → INV I' J' → Ev X k_L_law (2672, [some (vr 1000000), some (vr 0), some (vr 135), some (vr 145), some (vi (i : Int)), v5, v6], []) (MS I' J' (cc + c) (ss + 6 * c)) Q) : Ev X k_L_law (2296, [some (vr 1000000), some (vr 0), some (vr 135), some (vr 145), some (vi (i : Int)), v5, v6], []) (MS I J cc ss) (Q) := by
  have hC := ck_extreme
  refine ev_nL hC (fr' := (2301, [some (vr 1000000), some (vr 0), some (vr 135), some (vr 145), some (vi (i : Int)), v5, v6], [vi 1, vi (i : Int), vr 1000000, vr 0])) (S' := MS I J cc ss) 4 rfl ?_
  refine ev_add (z := (i : Int) + 1) (hC _ _ rfl) (by omega) (by omega) (by omega) ?_
  show Ev X k_L_law (2302, [some (vr 1000000), some (vr 0), some (vr 135), some (vr 145), some (vi (i : Int)), v5, v6], [vi ((i : Int) + 1), vr 1000000, vr 0]) (MS I J cc ss) _
  refine ev_xsN (j := i + 1) (hC _ _ rfl) rfl (by omega) (by omega) rfl ?_
  show Ev X k_L_law (2303, [some (vr 1000000), some (vr 0), some (vr 135), some (vr 145), some (vi (i : Int)), v5, v6], [vi (X.2 (i + 1)), vr 0]) (MS I J cc ss) _
  refine ev_nL hC (fr' := (2307, [some (vr 1000000), some (vr 0), some (vr 135), some (vr 145), some (vi (i : Int)), v5, v6], [vi 2, vi (i : Int), vr 1000000, vi (X.2 (i + 1)), vr 0])) (S' := MS I J cc ss) 3 rfl ?_
  refine ev_add (z := (i : Int) + 2) (hC _ _ rfl) (by omega) (by omega) (by omega) ?_
  show Ev X k_L_law (2308, [some (vr 1000000), some (vr 0), some (vr 135), some (vr 145), some (vi (i : Int)), v5, v6], [vi ((i : Int) + 2), vr 1000000, vi (X.2 (i + 1)), vr 0]) (MS I J cc ss) _
  refine ev_xsN (j := i + 2) (hC _ _ rfl) rfl (by omega) (by omega) rfl ?_
  show Ev X k_L_law (2309, [some (vr 1000000), some (vr 0), some (vr 135), some (vr 145), some (vi (i : Int)), v5, v6], [vi (X.2 (i + 2)), vi (X.2 (i + 1)), vr 0]) (MS I J cc ss) _
  refine ev_if (c := .eq) (off := 7) (hC _ _ rfl) (by decide) (fun (g1 : (X.2 (i + 2)) = 0) => ?_) (fun (g1 : ¬ ((X.2 (i + 2)) = 0)) => False.elim (by omega))
  show Ev X k_L_law (2316, [some (vr 1000000), some (vr 0), some (vr 135), some (vr 145), some (vi (i : Int)), v5, v6], [vi (X.2 (i + 1)), vr 0]) (MS I J cc ss) _
  refine ev_nL hC (fr' := (2318, [some (vr 1000000), some (vr 0), some (vr 135), some (vr 145), some (vi (i : Int)), v5, v6], [vr 145, vi 0, vi (X.2 (i + 1)), vr 0])) (S' := MS I J cc ss) 2 rfl ?_
  refine ev_ct (hC _ _ rfl) rfl rfl ⟨Nat.le_of_ble_eq_true rfl, Nat.le_of_ble_eq_true rfl⟩ (H) (fun t9 c9 I1 J1 q1 => ?_)
  obtain ⟨hc, hr⟩ := q1
  show Ev X k_L_law (2321, [some (vr 1000000), some (vr 0), some (vr 135), some (vr 145), some (vi (i : Int)), v5, v6], [vi (t9 : Int)]) (MS I1 J1 (cc + c9) (ss + 6 * c9)) _
  refine ev_nL hC (fr' := (2328, [some (vr 1000000), some (vr 0), some (vr 135), some (vr 145), some (vi (i : Int)), some (vi (t9 : Int)), v6], [vi 1, vi (i : Int), vr 1000000, vr 135])) (S' := MS I1 J1 (cc + c9) (ss + 6 * c9)) 5 rfl ?_
  refine ev_add (z := (i : Int) + 1) (hC _ _ rfl) (by omega) (by omega) (by omega) ?_
  show Ev X k_L_law (2329, [some (vr 1000000), some (vr 0), some (vr 135), some (vr 145), some (vi (i : Int)), some (vi (t9 : Int)), v6], [vi ((i : Int) + 1), vr 1000000, vr 135]) (MS I1 J1 (cc + c9) (ss + 6 * c9)) _
  refine ev_xsN (j := i + 1) (hC _ _ rfl) rfl (by omega) (by omega) rfl ?_
  show Ev X k_L_law (2330, [some (vr 1000000), some (vr 0), some (vr 135), some (vr 145), some (vi (i : Int)), some (vi (t9 : Int)), v6], [vi (X.2 (i + 1)), vr 135]) (MS I1 J1 (cc + c9) (ss + 6 * c9)) _
  refine ev_nL hC (fr' := (2334, [some (vr 1000000), some (vr 0), some (vr 135), some (vr 145), some (vi (i : Int)), some (vi (t9 : Int)), v6], [vi 2, vi (i : Int), vr 1000000, vi (X.2 (i + 1)), vr 135])) (S' := MS I1 J1 (cc + c9) (ss + 6 * c9)) 3 rfl ?_
  refine ev_add (z := (i : Int) + 2) (hC _ _ rfl) (by omega) (by omega) (by omega) ?_
  show Ev X k_L_law (2335, [some (vr 1000000), some (vr 0), some (vr 135), some (vr 145), some (vi (i : Int)), some (vi (t9 : Int)), v6], [vi ((i : Int) + 2), vr 1000000, vi (X.2 (i + 1)), vr 135]) (MS I1 J1 (cc + c9) (ss + 6 * c9)) _
  refine ev_xsN (j := i + 2) (hC _ _ rfl) rfl (by omega) (by omega) rfl ?_
  show Ev X k_L_law (2336, [some (vr 1000000), some (vr 0), some (vr 135), some (vr 145), some (vi (i : Int)), some (vi (t9 : Int)), v6], [vi (X.2 (i + 2)), vi (X.2 (i + 1)), vr 135]) (MS I1 J1 (cc + c9) (ss + 6 * c9)) _
  refine ev_if (c := .eq) (off := 7) (hC _ _ rfl) (by decide) (fun (g2 : (X.2 (i + 2)) = 0) => ?_) (fun (g2 : ¬ ((X.2 (i + 2)) = 0)) => False.elim (by omega))
  show Ev X k_L_law (2343, [some (vr 1000000), some (vr 0), some (vr 135), some (vr 145), some (vi (i : Int)), some (vi (t9 : Int)), v6], [vi (X.2 (i + 1)), vr 135]) (MS I1 J1 (cc + c9) (ss + 6 * c9)) _
  refine ev_nL hC (fr' := (2344, [some (vr 1000000), some (vr 0), some (vr 135), some (vr 145), some (vi (i : Int)), some (vi (t9 : Int)), v6], [vi 0, vi (X.2 (i + 1)), vr 135])) (S' := MS I1 J1 (cc + c9) (ss + 6 * c9)) 1 rfl ?_
  refine ev_cz (hC _ _ rfl) rfl rfl ⟨Nat.le_of_ble_eq_true rfl, Nat.le_of_ble_eq_true rfl⟩ (hr) (fun z1 I2 J2 q2 => ?_)
  obtain ⟨h4, hz, hI⟩ := q2
  show Ev X k_L_law (2347, [some (vr 1000000), some (vr 0), some (vr 135), some (vr 145), some (vi (i : Int)), some (vi (t9 : Int)), v6], [vi z1]) (MS I2 J2 (cc + c9) (ss + 6 * c9)) _
  refine ev_nL hC (fr' := (2350, [some (vr 1000000), some (vr 0), some (vr 135), some (vr 145), some (vi (i : Int)), some (vi (t9 : Int)), some (vi z1)], [vr 135])) (S' := MS I2 J2 (cc + c9) (ss + 6 * c9)) 2 rfl ?_
  refine ev_cv (hC _ _ rfl) rfl rfl ⟨Nat.le_of_ble_eq_true rfl, Nat.le_of_ble_eq_true rfl⟩ (sp_thrown X _ _ _ _ h4) ?_
  show Ev X k_L_law (2353, [some (vr 1000000), some (vr 0), some (vr 135), some (vr 145), some (vi (i : Int)), some (vi (t9 : Int)), some (vi z1)], [vi (t9 : Int)]) (MS I2 J2 (cc + c9) (ss + 6 * c9)) _
  refine ev_nL hC (fr' := (2355, [some (vr 1000000), some (vr 0), some (vr 135), some (vr 145), some (vi (i : Int)), some (vi (t9 : Int)), some (vi z1)], [vi (t9 : Int), vi (t9 : Int)])) (S' := MS I2 J2 (cc + c9) (ss + 6 * c9)) 1 rfl ?_
  refine ev_ic (c := .eq) (off := 5) (hC _ _ rfl) (by decide) (fun (g3 : (t9 : Int) = (t9 : Int)) => ?_) (fun (g3 : ¬ ((t9 : Int) = (t9 : Int))) => False.elim (g3 rfl))
  show Ev X k_L_law (2360, [some (vr 1000000), some (vr 0), some (vr 135), some (vr 145), some (vi (i : Int)), some (vi (t9 : Int)), some (vi z1)], []) (MS I2 J2 (cc + c9) (ss + 6 * c9)) _
  refine ev_nL hC (fr' := (2362, [some (vr 1000000), some (vr 0), some (vr 135), some (vr 145), some (vi (i : Int)), some (vi (t9 : Int)), some (vi z1)], [vi (t9 : Int)])) (S' := MS I2 J2 (cc + c9) (ss + 6 * c9)) 1 rfl ?_
  refine ev_if (c := .ne) (off := 15) (hC _ _ rfl) (by decide) (fun (g4 : (t9 : Int) ≠ 0) => ?_) (fun (g4 : ¬ ((t9 : Int) ≠ 0)) => ?_)
  · show Ev X k_L_law (2377, [some (vr 1000000), some (vr 0), some (vr 135), some (vr 145), some (vi (i : Int)), some (vi (t9 : Int)), some (vi z1)], []) (MS I2 J2 (cc + c9) (ss + 6 * c9)) _
    refine ev_nL hC (fr' := (2672, [some (vr 1000000), some (vr 0), some (vr 135), some (vr 145), some (vi (i : Int)), some (vi (t9 : Int)), some (vi z1)], [])) (S' := MS I2 J2 (cc + c9) (ss + 6 * c9)) 1 rfl ?_
    exact K _ _ _ _ _ hc hI
  · show Ev X k_L_law (2365, [some (vr 1000000), some (vr 0), some (vr 135), some (vr 145), some (vi (i : Int)), some (vi (t9 : Int)), some (vi z1)], []) (MS I2 J2 (cc + c9) (ss + 6 * c9)) _
    refine ev_nL hC (fr' := (2367, [some (vr 1000000), some (vr 0), some (vr 135), some (vr 145), some (vi (i : Int)), some (vi (t9 : Int)), some (vi z1)], [vi 0, vr 145])) (S' := MS I2 J2 (cc + c9) (ss + 6 * c9)) 2 rfl ?_
    refine ev_laN (j := 0) (z := (J2 145 0)) (hC _ _ rfl) rfl (by omega) (by omega) (rfl) ?_
    show Ev X k_L_law (2368, [some (vr 1000000), some (vr 0), some (vr 135), some (vr 145), some (vi (i : Int)), some (vi (t9 : Int)), some (vi z1)], [vl (J2 145 0)]) (MS I2 J2 (cc + c9) (ss + 6 * c9)) _
    refine ev_nL hC (fr' := (2371, [some (vr 1000000), some (vr 0), some (vr 135), some (vr 145), some (vi (i : Int)), some (vi (t9 : Int)), some (vi z1)], [vl z1, vl (J2 145 0)])) (S' := MS I2 J2 (cc + c9) (ss + 6 * c9)) 2 rfl ?_
    refine ev_lc (c := .eq) (off := 5) (hC _ _ rfl) (hC _ _ rfl) (by decide) (fun (g5 : (J2 145 0) = z1) => ?_) (fun (g5 : ¬ ((J2 145 0) = z1)) => False.elim (g5 (hz (by omega)).1))
    show Ev X k_L_law (2377, [some (vr 1000000), some (vr 0), some (vr 135), some (vr 145), some (vi (i : Int)), some (vi (t9 : Int)), some (vi z1)], []) (MS I2 J2 (cc + c9) (ss + 6 * c9)) _
    refine ev_nL hC (fr' := (2672, [some (vr 1000000), some (vr 0), some (vr 135), some (vr 145), some (vi (i : Int)), some (vi (t9 : Int)), some (vi z1)], [])) (S' := MS I2 J2 (cc + c9) (ss + 6 * c9)) 1 rfl ?_
    exact K _ _ _ _ _ hc hI
theorem lw_extreme_1 (X : AX) (I J : Nat → Nat → Int) (cc ss : Nat) {Q : (Option AV ⊕ Nat) → AS → Prop} (i : Nat) (hi : i + 6 ≤ X.1) (h72 : X.1 ≤ 3072) (v5 v6 : Option AV) (hb : ¬ X.2 (i + 2) = 0) (H : Two X k_L_extreme k_X9_extreme (0, [some (vr 0), some (vi (X.2 (i + 1))), some (vi 1), some (vr 145), none], []) (0, [some (vr 135), some (vi (X.2 (i + 1))), some (vi 1), none, none, none, none], []) (fun _ => True) I J cc ss) (K : ∀ I' J' c v5 v6, c ≤ 1 → INV I' J' → Ev X k_L_law (2672, [some (vr 1000000), some (vr 0), some (vr 135), some (vr 145), some (vi (i : Int)), v5, v6], []) (MS I' J' (cc + c) (ss + 6 * c)) Q) : Ev X k_L_law (2296, [some (vr 1000000), some (vr 0), some (vr 135), some (vr 145), some (vi (i : Int)), v5, v6], []) (MS I J cc ss) (Q) := by
  have hC := ck_extreme
  refine ev_nL hC (fr' := (2301, [some (vr 1000000), some (vr 0), some (vr 135), some (vr 145), some (vi (i : Int)), v5, v6], [vi 1, vi (i : Int), vr 1000000, vr 0])) (S' := MS I J cc ss) 4 rfl ?_
  refine ev_add (z := (i : Int) + 1) (hC _ _ rfl) (by omega) (by omega) (by omega) ?_
  show Ev X k_L_law (2302, [some (vr 1000000), some (vr 0), some (vr 135), some (vr 145), some (vi (i : Int)), v5, v6], [vi ((i : Int) + 1), vr 1000000, vr 0]) (MS I J cc ss) _
  refine ev_xsN (j := i + 1) (hC _ _ rfl) rfl (by omega) (by omega) rfl ?_
  show Ev X k_L_law (2303, [some (vr 1000000), some (vr 0), some (vr 135), some (vr 145), some (vi (i : Int)), v5, v6], [vi (X.2 (i + 1)), vr 0]) (MS I J cc ss) _
  refine ev_nL hC (fr' := (2307, [some (vr 1000000), some (vr 0), some (vr 135), some (vr 145), some (vi (i : Int)), v5, v6], [vi 2, vi (i : Int), vr 1000000, vi (X.2 (i + 1)), vr 0])) (S' := MS I J cc ss) 3 rfl ?_
  refine ev_add (z := (i : Int) + 2) (hC _ _ rfl) (by omega) (by omega) (by omega) ?_
  show Ev X k_L_law (2308, [some (vr 1000000), some (vr 0), some (vr 135), some (vr 145), some (vi (i : Int)), v5, v6], [vi ((i : Int) + 2), vr 1000000, vi (X.2 (i + 1)), vr 0]) (MS I J cc ss) _
  refine ev_xsN (j := i + 2) (hC _ _ rfl) rfl (by omega) (by omega) rfl ?_
  show Ev X k_L_law (2309, [some (vr 1000000), some (vr 0), some (vr 135), some (vr 145), some (vi (i : Int)), v5, v6], [vi (X.2 (i + 2)), vi (X.2 (i + 1)), vr 0]) (MS I J cc ss) _
  refine ev_if (c := .eq) (off := 7) (hC _ _ rfl) (by decide) (fun (g1 : (X.2 (i + 2)) = 0) => False.elim (by omega)) (fun (g1 : ¬ ((X.2 (i + 2)) = 0)) => ?_)
  show Ev X k_L_law (2312, [some (vr 1000000), some (vr 0), some (vr 135), some (vr 145), some (vi (i : Int)), v5, v6], [vi (X.2 (i + 1)), vr 0]) (MS I J cc ss) _
  refine ev_nL hC (fr' := (2318, [some (vr 1000000), some (vr 0), some (vr 135), some (vr 145), some (vi (i : Int)), v5, v6], [vr 145, vi 1, vi (X.2 (i + 1)), vr 0])) (S' := MS I J cc ss) 3 rfl ?_
  refine ev_ct (hC _ _ rfl) rfl rfl ⟨Nat.le_of_ble_eq_true rfl, Nat.le_of_ble_eq_true rfl⟩ (H) (fun t9 c9 I1 J1 q1 => ?_)
  obtain ⟨hc, hr⟩ := q1
  show Ev X k_L_law (2321, [some (vr 1000000), some (vr 0), some (vr 135), some (vr 145), some (vi (i : Int)), v5, v6], [vi (t9 : Int)]) (MS I1 J1 (cc + c9) (ss + 6 * c9)) _
  refine ev_nL hC (fr' := (2328, [some (vr 1000000), some (vr 0), some (vr 135), some (vr 145), some (vi (i : Int)), some (vi (t9 : Int)), v6], [vi 1, vi (i : Int), vr 1000000, vr 135])) (S' := MS I1 J1 (cc + c9) (ss + 6 * c9)) 5 rfl ?_
  refine ev_add (z := (i : Int) + 1) (hC _ _ rfl) (by omega) (by omega) (by omega) ?_
  show Ev X k_L_law (2329, [some (vr 1000000), some (vr 0), some (vr 135), some (vr 145), some (vi (i : Int)), some (vi (t9 : Int)), v6], [vi ((i : Int) + 1), vr 1000000, vr 135]) (MS I1 J1 (cc + c9) (ss + 6 * c9)) _
  refine ev_xsN (j := i + 1) (hC _ _ rfl) rfl (by omega) (by omega) rfl ?_
  show Ev X k_L_law (2330, [some (vr 1000000), some (vr 0), some (vr 135), some (vr 145), some (vi (i : Int)), some (vi (t9 : Int)), v6], [vi (X.2 (i + 1)), vr 135]) (MS I1 J1 (cc + c9) (ss + 6 * c9)) _
  refine ev_nL hC (fr' := (2334, [some (vr 1000000), some (vr 0), some (vr 135), some (vr 145), some (vi (i : Int)), some (vi (t9 : Int)), v6], [vi 2, vi (i : Int), vr 1000000, vi (X.2 (i + 1)), vr 135])) (S' := MS I1 J1 (cc + c9) (ss + 6 * c9)) 3 rfl ?_
  refine ev_add (z := (i : Int) + 2) (hC _ _ rfl) (by omega) (by omega) (by omega) ?_
  show Ev X k_L_law (2335, [some (vr 1000000), some (vr 0), some (vr 135), some (vr 145), some (vi (i : Int)), some (vi (t9 : Int)), v6], [vi ((i : Int) + 2), vr 1000000, vi (X.2 (i + 1)), vr 135]) (MS I1 J1 (cc + c9) (ss + 6 * c9)) _
  refine ev_xsN (j := i + 2) (hC _ _ rfl) rfl (by omega) (by omega) rfl ?_
  show Ev X k_L_law (2336, [some (vr 1000000), some (vr 0), some (vr 135), some (vr 145), some (vi (i : Int)), some (vi (t9 : Int)), v6], [vi (X.2 (i + 2)), vi (X.2 (i + 1)), vr 135]) (MS I1 J1 (cc + c9) (ss + 6 * c9)) _
  refine ev_if (c := .eq) (off := 7) (hC _ _ rfl) (by decide) (fun (g2 : (X.2 (i + 2)) = 0) => False.elim (by omega)) (fun (g2 : ¬ ((X.2 (i + 2)) = 0)) => ?_)
  show Ev X k_L_law (2339, [some (vr 1000000), some (vr 0), some (vr 135), some (vr 145), some (vi (i : Int)), some (vi (t9 : Int)), v6], [vi (X.2 (i + 1)), vr 135]) (MS I1 J1 (cc + c9) (ss + 6 * c9)) _
  refine ev_nL hC (fr' := (2344, [some (vr 1000000), some (vr 0), some (vr 135), some (vr 145), some (vi (i : Int)), some (vi (t9 : Int)), v6], [vi 1, vi (X.2 (i + 1)), vr 135])) (S' := MS I1 J1 (cc + c9) (ss + 6 * c9)) 2 rfl ?_
  refine ev_cz (hC _ _ rfl) rfl rfl ⟨Nat.le_of_ble_eq_true rfl, Nat.le_of_ble_eq_true rfl⟩ (hr) (fun z1 I2 J2 q2 => ?_)
  obtain ⟨h4, hz, hI⟩ := q2
  show Ev X k_L_law (2347, [some (vr 1000000), some (vr 0), some (vr 135), some (vr 145), some (vi (i : Int)), some (vi (t9 : Int)), v6], [vi z1]) (MS I2 J2 (cc + c9) (ss + 6 * c9)) _
  refine ev_nL hC (fr' := (2350, [some (vr 1000000), some (vr 0), some (vr 135), some (vr 145), some (vi (i : Int)), some (vi (t9 : Int)), some (vi z1)], [vr 135])) (S' := MS I2 J2 (cc + c9) (ss + 6 * c9)) 2 rfl ?_
  refine ev_cv (hC _ _ rfl) rfl rfl ⟨Nat.le_of_ble_eq_true rfl, Nat.le_of_ble_eq_true rfl⟩ (sp_thrown X _ _ _ _ h4) ?_
  show Ev X k_L_law (2353, [some (vr 1000000), some (vr 0), some (vr 135), some (vr 145), some (vi (i : Int)), some (vi (t9 : Int)), some (vi z1)], [vi (t9 : Int)]) (MS I2 J2 (cc + c9) (ss + 6 * c9)) _
  refine ev_nL hC (fr' := (2355, [some (vr 1000000), some (vr 0), some (vr 135), some (vr 145), some (vi (i : Int)), some (vi (t9 : Int)), some (vi z1)], [vi (t9 : Int), vi (t9 : Int)])) (S' := MS I2 J2 (cc + c9) (ss + 6 * c9)) 1 rfl ?_
  refine ev_ic (c := .eq) (off := 5) (hC _ _ rfl) (by decide) (fun (g3 : (t9 : Int) = (t9 : Int)) => ?_) (fun (g3 : ¬ ((t9 : Int) = (t9 : Int))) => False.elim (g3 rfl))
  show Ev X k_L_law (2360, [some (vr 1000000), some (vr 0), some (vr 135), some (vr 145), some (vi (i : Int)), some (vi (t9 : Int)), some (vi z1)], []) (MS I2 J2 (cc + c9) (ss + 6 * c9)) _
  refine ev_nL hC (fr' := (2362, [some (vr 1000000), some (vr 0), some (vr 135), some (vr 145), some (vi (i : Int)), some (vi (t9 : Int)), some (vi z1)], [vi (t9 : Int)])) (S' := MS I2 J2 (cc + c9) (ss + 6 * c9)) 1 rfl ?_
  refine ev_if (c := .ne) (off := 15) (hC _ _ rfl) (by decide) (fun (g4 : (t9 : Int) ≠ 0) => ?_) (fun (g4 : ¬ ((t9 : Int) ≠ 0)) => ?_)
  · show Ev X k_L_law (2377, [some (vr 1000000), some (vr 0), some (vr 135), some (vr 145), some (vi (i : Int)), some (vi (t9 : Int)), some (vi z1)], []) (MS I2 J2 (cc + c9) (ss + 6 * c9)) _
    refine ev_nL hC (fr' := (2672, [some (vr 1000000), some (vr 0), some (vr 135), some (vr 145), some (vi (i : Int)), some (vi (t9 : Int)), some (vi z1)], [])) (S' := MS I2 J2 (cc + c9) (ss + 6 * c9)) 1 rfl ?_
    exact K _ _ _ _ _ hc hI
  · show Ev X k_L_law (2365, [some (vr 1000000), some (vr 0), some (vr 135), some (vr 145), some (vi (i : Int)), some (vi (t9 : Int)), some (vi z1)], []) (MS I2 J2 (cc + c9) (ss + 6 * c9)) _
    refine ev_nL hC (fr' := (2367, [some (vr 1000000), some (vr 0), some (vr 135), some (vr 145), some (vi (i : Int)), some (vi (t9 : Int)), some (vi z1)], [vi 0, vr 145])) (S' := MS I2 J2 (cc + c9) (ss + 6 * c9)) 2 rfl ?_
    refine ev_laN (j := 0) (z := (J2 145 0)) (hC _ _ rfl) rfl (by omega) (by omega) (rfl) ?_
    show Ev X k_L_law (2368, [some (vr 1000000), some (vr 0), some (vr 135), some (vr 145), some (vi (i : Int)), some (vi (t9 : Int)), some (vi z1)], [vl (J2 145 0)]) (MS I2 J2 (cc + c9) (ss + 6 * c9)) _
    refine ev_nL hC (fr' := (2371, [some (vr 1000000), some (vr 0), some (vr 135), some (vr 145), some (vi (i : Int)), some (vi (t9 : Int)), some (vi z1)], [vl z1, vl (J2 145 0)])) (S' := MS I2 J2 (cc + c9) (ss + 6 * c9)) 2 rfl ?_
    refine ev_lc (c := .eq) (off := 5) (hC _ _ rfl) (hC _ _ rfl) (by decide) (fun (g5 : (J2 145 0) = z1) => ?_) (fun (g5 : ¬ ((J2 145 0) = z1)) => False.elim (g5 (hz (by omega)).1))
    show Ev X k_L_law (2377, [some (vr 1000000), some (vr 0), some (vr 135), some (vr 145), some (vi (i : Int)), some (vi (t9 : Int)), some (vi z1)], []) (MS I2 J2 (cc + c9) (ss + 6 * c9)) _
    refine ev_nL hC (fr' := (2672, [some (vr 1000000), some (vr 0), some (vr 135), some (vr 145), some (vi (i : Int)), some (vi (t9 : Int)), some (vi z1)], [])) (S' := MS I2 J2 (cc + c9) (ss + 6 * c9)) 1 rfl ?_
    exact K _ _ _ _ _ hc hI
set_option maxRecDepth 100000 in
noncomputable def cl_bestExtra : List (Nat × AI) := [(2380, .aload_n 1, 1, (0, 0, 0)), (2381, .aload_n 0, 1, (0, 0, 0)), (2382, .iload 4, 2, (0, 0, 0)), (2384, .iconst 1, 1, (0, 0, 0)), (2385, .iadd, 1, (0, 0, 0)), (2386, .iaload, 1, (0, 0, 0)), (2387, .aload_n 3, 1, (0, 0, 0)), (2388, .invokestatic 235, 3, (10, 277, 3)), (2391, .istore 5, 2, (0, 0, 0)), (2393, .aload_n 2, 1, (0, 0, 0)), (2394, .aload_n 0, 1, (0, 0, 0)), (2395, .iload 4, 2, (0, 0, 0)), (2397, .iconst 1, 1, (0, 0, 0)), (2398, .iadd, 1, (0, 0, 0)), (2399, .iaload, 1, (0, 0, 0)), (2400, .invokevirtual 237, 3, (1, 155, 1)), (2403, .istore 6, 2, (0, 0, 0)), (2405, .aload_n 2, 1, (0, 0, 0)), (2406, .invokevirtual 133, 3, (1, 56, 0)), (2409, .iload 5, 2, (0, 0, 0)), (2411, .if_icmp .eq 5, 3, (0, 0, 0)), (2414, .iconst 0, 1, (0, 0, 0)), (2415, .ireturn, 1, (1, 0, 0)), (2416, .iload 5, 2, (0, 0, 0)), (2418, .ifCond .ne 15, 3, (0, 0, 0)), (2421, .aload_n 3, 1, (0, 0, 0)), (2422, .iconst 0, 1, (0, 0, 0)), (2423, .laload, 1, (0, 0, 0)), (2424, .iload 6, 2, (0, 0, 0)), (2426, .i2l, 1, (0, 0, 0)), (2427, .lcmp, 1, (0, 0, 0)), (2428, .ifCond .eq 5, 3, (0, 0, 0)), (2431, .iconst 0, 1, (0, 0, 0)), (2432, .ireturn, 1, (1, 0, 0)), (2433, .goto 239, 3, (0, 0, 0))]
set_option maxRecDepth 100000 in
theorem ck_bestExtra : lkS cl_bestExtra k_L_law := lkS_of (by decide +kernel)
theorem lw_bestExtra (X : AX) (I J : Nat → Nat → Int) (cc ss : Nat) {Q : (Option AV ⊕ Nat) → AS → Prop} (i : Nat) (hi : i + 6 ≤ X.1) (h72 : X.1 ≤ 3072) (v5 v6 : Option AV) (H : Two X k_L_bestExtra k_X9_bestExtra (0, [some (vr 0), some (vi (X.2 (i + 1))), some (vr 145), none], []) (0, [some (vr 135), some (vi (X.2 (i + 1))), none, none, none, none, none, none, none], []) (fun _ => True) I J cc ss) (K : ∀ I' J' c v5 v6, c ≤ 1 → INV I' J' → Ev X k_L_law (2672, [some (vr 1000000), some (vr 0), some (vr 135), some (vr 145), some (vi (i : Int)), v5, v6], []) (MS I' J' (cc + c) (ss + 6 * c)) Q) : Ev X k_L_law (2380, [some (vr 1000000), some (vr 0), some (vr 135), some (vr 145), some (vi (i : Int)), v5, v6], []) (MS I J cc ss) (Q) := by
  have hC := ck_bestExtra
  refine ev_nL hC (fr' := (2385, [some (vr 1000000), some (vr 0), some (vr 135), some (vr 145), some (vi (i : Int)), v5, v6], [vi 1, vi (i : Int), vr 1000000, vr 0])) (S' := MS I J cc ss) 4 rfl ?_
  refine ev_add (z := (i : Int) + 1) (hC _ _ rfl) (by omega) (by omega) (by omega) ?_
  show Ev X k_L_law (2386, [some (vr 1000000), some (vr 0), some (vr 135), some (vr 145), some (vi (i : Int)), v5, v6], [vi ((i : Int) + 1), vr 1000000, vr 0]) (MS I J cc ss) _
  refine ev_xsN (j := i + 1) (hC _ _ rfl) rfl (by omega) (by omega) rfl ?_
  show Ev X k_L_law (2387, [some (vr 1000000), some (vr 0), some (vr 135), some (vr 145), some (vi (i : Int)), v5, v6], [vi (X.2 (i + 1)), vr 0]) (MS I J cc ss) _
  refine ev_nL hC (fr' := (2388, [some (vr 1000000), some (vr 0), some (vr 135), some (vr 145), some (vi (i : Int)), v5, v6], [vr 145, vi (X.2 (i + 1)), vr 0])) (S' := MS I J cc ss) 1 rfl ?_
  refine ev_ct (hC _ _ rfl) rfl rfl ⟨Nat.le_of_ble_eq_true rfl, Nat.le_of_ble_eq_true rfl⟩ (H) (fun t9 c9 I1 J1 q1 => ?_)
  obtain ⟨hc, hr⟩ := q1
  show Ev X k_L_law (2391, [some (vr 1000000), some (vr 0), some (vr 135), some (vr 145), some (vi (i : Int)), v5, v6], [vi (t9 : Int)]) (MS I1 J1 (cc + c9) (ss + 6 * c9)) _
  refine ev_nL hC (fr' := (2398, [some (vr 1000000), some (vr 0), some (vr 135), some (vr 145), some (vi (i : Int)), some (vi (t9 : Int)), v6], [vi 1, vi (i : Int), vr 1000000, vr 135])) (S' := MS I1 J1 (cc + c9) (ss + 6 * c9)) 5 rfl ?_
  refine ev_add (z := (i : Int) + 1) (hC _ _ rfl) (by omega) (by omega) (by omega) ?_
  show Ev X k_L_law (2399, [some (vr 1000000), some (vr 0), some (vr 135), some (vr 145), some (vi (i : Int)), some (vi (t9 : Int)), v6], [vi ((i : Int) + 1), vr 1000000, vr 135]) (MS I1 J1 (cc + c9) (ss + 6 * c9)) _
  refine ev_xsN (j := i + 1) (hC _ _ rfl) rfl (by omega) (by omega) rfl ?_
  show Ev X k_L_law (2400, [some (vr 1000000), some (vr 0), some (vr 135), some (vr 145), some (vi (i : Int)), some (vi (t9 : Int)), v6], [vi (X.2 (i + 1)), vr 135]) (MS I1 J1 (cc + c9) (ss + 6 * c9)) _
  refine ev_cz (hC _ _ rfl) rfl rfl ⟨Nat.le_of_ble_eq_true rfl, Nat.le_of_ble_eq_true rfl⟩ (hr) (fun z1 I2 J2 q2 => ?_)
  obtain ⟨h4, hz, hI⟩ := q2
  show Ev X k_L_law (2403, [some (vr 1000000), some (vr 0), some (vr 135), some (vr 145), some (vi (i : Int)), some (vi (t9 : Int)), v6], [vi z1]) (MS I2 J2 (cc + c9) (ss + 6 * c9)) _
  refine ev_nL hC (fr' := (2406, [some (vr 1000000), some (vr 0), some (vr 135), some (vr 145), some (vi (i : Int)), some (vi (t9 : Int)), some (vi z1)], [vr 135])) (S' := MS I2 J2 (cc + c9) (ss + 6 * c9)) 2 rfl ?_
  refine ev_cv (hC _ _ rfl) rfl rfl ⟨Nat.le_of_ble_eq_true rfl, Nat.le_of_ble_eq_true rfl⟩ (sp_thrown X _ _ _ _ h4) ?_
  show Ev X k_L_law (2409, [some (vr 1000000), some (vr 0), some (vr 135), some (vr 145), some (vi (i : Int)), some (vi (t9 : Int)), some (vi z1)], [vi (t9 : Int)]) (MS I2 J2 (cc + c9) (ss + 6 * c9)) _
  refine ev_nL hC (fr' := (2411, [some (vr 1000000), some (vr 0), some (vr 135), some (vr 145), some (vi (i : Int)), some (vi (t9 : Int)), some (vi z1)], [vi (t9 : Int), vi (t9 : Int)])) (S' := MS I2 J2 (cc + c9) (ss + 6 * c9)) 1 rfl ?_
  refine ev_ic (c := .eq) (off := 5) (hC _ _ rfl) (by decide) (fun (g1 : (t9 : Int) = (t9 : Int)) => ?_) (fun (g1 : ¬ ((t9 : Int) = (t9 : Int))) => False.elim (g1 rfl))
  show Ev X k_L_law (2416, [some (vr 1000000), some (vr 0), some (vr 135), some (vr 145), some (vi (i : Int)), some (vi (t9 : Int)), some (vi z1)], []) (MS I2 J2 (cc + c9) (ss + 6 * c9)) _
  refine ev_nL hC (fr' := (2418, [some (vr 1000000), some (vr 0), some (vr 135), some (vr 145), some (vi (i : Int)), some (vi (t9 : Int)), some (vi z1)], [vi (t9 : Int)])) (S' := MS I2 J2 (cc + c9) (ss + 6 * c9)) 1 rfl ?_
  refine ev_if (c := .ne) (off := 15) (hC _ _ rfl) (by decide) (fun (g2 : (t9 : Int) ≠ 0) => ?_) (fun (g2 : ¬ ((t9 : Int) ≠ 0)) => ?_)
  · show Ev X k_L_law (2433, [some (vr 1000000), some (vr 0), some (vr 135), some (vr 145), some (vi (i : Int)), some (vi (t9 : Int)), some (vi z1)], []) (MS I2 J2 (cc + c9) (ss + 6 * c9)) _
    refine ev_nL hC (fr' := (2672, [some (vr 1000000), some (vr 0), some (vr 135), some (vr 145), some (vi (i : Int)), some (vi (t9 : Int)), some (vi z1)], [])) (S' := MS I2 J2 (cc + c9) (ss + 6 * c9)) 1 rfl ?_
    exact K _ _ _ _ _ hc hI
  · show Ev X k_L_law (2421, [some (vr 1000000), some (vr 0), some (vr 135), some (vr 145), some (vi (i : Int)), some (vi (t9 : Int)), some (vi z1)], []) (MS I2 J2 (cc + c9) (ss + 6 * c9)) _
    refine ev_nL hC (fr' := (2423, [some (vr 1000000), some (vr 0), some (vr 135), some (vr 145), some (vi (i : Int)), some (vi (t9 : Int)), some (vi z1)], [vi 0, vr 145])) (S' := MS I2 J2 (cc + c9) (ss + 6 * c9)) 2 rfl ?_
    refine ev_laN (j := 0) (z := (J2 145 0)) (hC _ _ rfl) rfl (by omega) (by omega) (rfl) ?_
    show Ev X k_L_law (2424, [some (vr 1000000), some (vr 0), some (vr 135), some (vr 145), some (vi (i : Int)), some (vi (t9 : Int)), some (vi z1)], [vl (J2 145 0)]) (MS I2 J2 (cc + c9) (ss + 6 * c9)) _
    refine ev_nL hC (fr' := (2427, [some (vr 1000000), some (vr 0), some (vr 135), some (vr 145), some (vi (i : Int)), some (vi (t9 : Int)), some (vi z1)], [vl z1, vl (J2 145 0)])) (S' := MS I2 J2 (cc + c9) (ss + 6 * c9)) 2 rfl ?_
    refine ev_lc (c := .eq) (off := 5) (hC _ _ rfl) (hC _ _ rfl) (by decide) (fun (g3 : (J2 145 0) = z1) => ?_) (fun (g3 : ¬ ((J2 145 0) = z1)) => False.elim (g3 (hz (by omega)).1))
    show Ev X k_L_law (2433, [some (vr 1000000), some (vr 0), some (vr 135), some (vr 145), some (vi (i : Int)), some (vi (t9 : Int)), some (vi z1)], []) (MS I2 J2 (cc + c9) (ss + 6 * c9)) _
    refine ev_nL hC (fr' := (2672, [some (vr 1000000), some (vr 0), some (vr 135), some (vr 145), some (vi (i : Int)), some (vi (t9 : Int)), some (vi z1)], [])) (S' := MS I2 J2 (cc + c9) (ss + 6 * c9)) 1 rfl ?_
    exact K _ _ _ _ _ hc hI
set_option maxRecDepth 100000 in
noncomputable def cl_indifferent : List (Nat × AI) := [(2436, .aload_n 1, 1, (0, 0, 0)), (2437, .aload_n 0, 1, (0, 0, 0)), (2438, .iload 4, 2, (0, 0, 0)), (2440, .iconst 1, 1, (0, 0, 0)), (2441, .iadd, 1, (0, 0, 0)), (2442, .iaload, 1, (0, 0, 0)), (2443, .aload_n 0, 1, (0, 0, 0)), (2444, .iload 4, 2, (0, 0, 0)), (2446, .iconst 2, 1, (0, 0, 0)), (2447, .iadd, 1, (0, 0, 0)), (2448, .iaload, 1, (0, 0, 0)), (2449, .aload_n 3, 1, (0, 0, 0)), (2450, .invokestatic 238, 3, (10, 278, 4)), (2453, .istore 5, 2, (0, 0, 0)), (2455, .aload_n 2, 1, (0, 0, 0)), (2456, .aload_n 0, 1, (0, 0, 0)), (2457, .iload 4, 2, (0, 0, 0)), (2459, .iconst 1, 1, (0, 0, 0)), (2460, .iadd, 1, (0, 0, 0)), (2461, .iaload, 1, (0, 0, 0)), (2462, .aload_n 0, 1, (0, 0, 0)), (2463, .iload 4, 2, (0, 0, 0)), (2465, .iconst 2, 1, (0, 0, 0)), (2466, .iadd, 1, (0, 0, 0)), (2467, .iaload, 1, (0, 0, 0)), (2468, .invokevirtual 240, 3, (1, 156, 2)), (2471, .istore 6, 2, (0, 0, 0)), (2473, .aload_n 2, 1, (0, 0, 0)), (2474, .invokevirtual 133, 3, (1, 56, 0)), (2477, .iload 5, 2, (0, 0, 0)), (2479, .if_icmp .eq 5, 3, (0, 0, 0)), (2482, .iconst 0, 1, (0, 0, 0)), (2483, .ireturn, 1, (1, 0, 0)), (2484, .iload 5, 2, (0, 0, 0)), (2486, .ifCond .ne 15, 3, (0, 0, 0)), (2489, .aload_n 3, 1, (0, 0, 0)), (2490, .iconst 0, 1, (0, 0, 0)), (2491, .laload, 1, (0, 0, 0)), (2492, .iload 6, 2, (0, 0, 0)), (2494, .i2l, 1, (0, 0, 0)), (2495, .lcmp, 1, (0, 0, 0)), (2496, .ifCond .eq 5, 3, (0, 0, 0)), (2499, .iconst 0, 1, (0, 0, 0)), (2500, .ireturn, 1, (1, 0, 0)), (2501, .goto 171, 3, (0, 0, 0))]
set_option maxRecDepth 100000 in
theorem ck_indifferent : lkS cl_indifferent k_L_law := lkS_of (by decide +kernel)
theorem lw_indifferent (X : AX) (I J : Nat → Nat → Int) (cc ss : Nat) {Q : (Option AV ⊕ Nat) → AS → Prop} (i : Nat) (hi : i + 6 ≤ X.1) (h72 : X.1 ≤ 3072) (v5 v6 : Option AV) (H : Two X k_L_indifferent k_X9_indifferent (0, [some (vr 0), some (vi (X.2 (i + 1))), some (vi (X.2 (i + 2))), some (vr 145), none], []) (0, [some (vr 135), some (vi (X.2 (i + 1))), some (vi (X.2 (i + 2))), none, none], []) (fun _ => True) I J cc ss) (K : ∀ I' J' c v5 v6, c ≤ 1 → INV I' J' → Ev X k_L_law (2672, [some (vr 1000000), some (vr 0), some (vr 135), some (vr 145), some (vi (i : Int)), v5, v6], []) (MS I' J' (cc + c) (ss + 6 * c)) Q) : Ev X k_L_law (2436, [some (vr 1000000), some (vr 0), some (vr 135), some (vr 145), some (vi (i : Int)), v5, v6], []) (MS I J cc ss) (Q) := by
  have hC := ck_indifferent
  refine ev_nL hC (fr' := (2441, [some (vr 1000000), some (vr 0), some (vr 135), some (vr 145), some (vi (i : Int)), v5, v6], [vi 1, vi (i : Int), vr 1000000, vr 0])) (S' := MS I J cc ss) 4 rfl ?_
  refine ev_add (z := (i : Int) + 1) (hC _ _ rfl) (by omega) (by omega) (by omega) ?_
  show Ev X k_L_law (2442, [some (vr 1000000), some (vr 0), some (vr 135), some (vr 145), some (vi (i : Int)), v5, v6], [vi ((i : Int) + 1), vr 1000000, vr 0]) (MS I J cc ss) _
  refine ev_xsN (j := i + 1) (hC _ _ rfl) rfl (by omega) (by omega) rfl ?_
  show Ev X k_L_law (2443, [some (vr 1000000), some (vr 0), some (vr 135), some (vr 145), some (vi (i : Int)), v5, v6], [vi (X.2 (i + 1)), vr 0]) (MS I J cc ss) _
  refine ev_nL hC (fr' := (2447, [some (vr 1000000), some (vr 0), some (vr 135), some (vr 145), some (vi (i : Int)), v5, v6], [vi 2, vi (i : Int), vr 1000000, vi (X.2 (i + 1)), vr 0])) (S' := MS I J cc ss) 3 rfl ?_
  refine ev_add (z := (i : Int) + 2) (hC _ _ rfl) (by omega) (by omega) (by omega) ?_
  show Ev X k_L_law (2448, [some (vr 1000000), some (vr 0), some (vr 135), some (vr 145), some (vi (i : Int)), v5, v6], [vi ((i : Int) + 2), vr 1000000, vi (X.2 (i + 1)), vr 0]) (MS I J cc ss) _
  refine ev_xsN (j := i + 2) (hC _ _ rfl) rfl (by omega) (by omega) rfl ?_
  show Ev X k_L_law (2449, [some (vr 1000000), some (vr 0), some (vr 135), some (vr 145), some (vi (i : Int)), v5, v6], [vi (X.2 (i + 2)), vi (X.2 (i + 1)), vr 0]) (MS I J cc ss) _
  refine ev_nL hC (fr' := (2450, [some (vr 1000000), some (vr 0), some (vr 135), some (vr 145), some (vi (i : Int)), v5, v6], [vr 145, vi (X.2 (i + 2)), vi (X.2 (i + 1)), vr 0])) (S' := MS I J cc ss) 1 rfl ?_
  refine ev_ct (hC _ _ rfl) rfl rfl ⟨Nat.le_of_ble_eq_true rfl, Nat.le_of_ble_eq_true rfl⟩ (H) (fun t9 c9 I1 J1 q1 => ?_)
  obtain ⟨hc, hr⟩ := q1
  show Ev X k_L_law (2453, [some (vr 1000000), some (vr 0), some (vr 135), some (vr 145), some (vi (i : Int)), v5, v6], [vi (t9 : Int)]) (MS I1 J1 (cc + c9) (ss + 6 * c9)) _
  refine ev_nL hC (fr' := (2460, [some (vr 1000000), some (vr 0), some (vr 135), some (vr 145), some (vi (i : Int)), some (vi (t9 : Int)), v6], [vi 1, vi (i : Int), vr 1000000, vr 135])) (S' := MS I1 J1 (cc + c9) (ss + 6 * c9)) 5 rfl ?_
  refine ev_add (z := (i : Int) + 1) (hC _ _ rfl) (by omega) (by omega) (by omega) ?_
  show Ev X k_L_law (2461, [some (vr 1000000), some (vr 0), some (vr 135), some (vr 145), some (vi (i : Int)), some (vi (t9 : Int)), v6], [vi ((i : Int) + 1), vr 1000000, vr 135]) (MS I1 J1 (cc + c9) (ss + 6 * c9)) _
  refine ev_xsN (j := i + 1) (hC _ _ rfl) rfl (by omega) (by omega) rfl ?_
  show Ev X k_L_law (2462, [some (vr 1000000), some (vr 0), some (vr 135), some (vr 145), some (vi (i : Int)), some (vi (t9 : Int)), v6], [vi (X.2 (i + 1)), vr 135]) (MS I1 J1 (cc + c9) (ss + 6 * c9)) _
  refine ev_nL hC (fr' := (2466, [some (vr 1000000), some (vr 0), some (vr 135), some (vr 145), some (vi (i : Int)), some (vi (t9 : Int)), v6], [vi 2, vi (i : Int), vr 1000000, vi (X.2 (i + 1)), vr 135])) (S' := MS I1 J1 (cc + c9) (ss + 6 * c9)) 3 rfl ?_
  refine ev_add (z := (i : Int) + 2) (hC _ _ rfl) (by omega) (by omega) (by omega) ?_
  show Ev X k_L_law (2467, [some (vr 1000000), some (vr 0), some (vr 135), some (vr 145), some (vi (i : Int)), some (vi (t9 : Int)), v6], [vi ((i : Int) + 2), vr 1000000, vi (X.2 (i + 1)), vr 135]) (MS I1 J1 (cc + c9) (ss + 6 * c9)) _
  refine ev_xsN (j := i + 2) (hC _ _ rfl) rfl (by omega) (by omega) rfl ?_
  show Ev X k_L_law (2468, [some (vr 1000000), some (vr 0), some (vr 135), some (vr 145), some (vi (i : Int)), some (vi (t9 : Int)), v6], [vi (X.2 (i + 2)), vi (X.2 (i + 1)), vr 135]) (MS I1 J1 (cc + c9) (ss + 6 * c9)) _
  refine ev_cz (hC _ _ rfl) rfl rfl ⟨Nat.le_of_ble_eq_true rfl, Nat.le_of_ble_eq_true rfl⟩ (hr) (fun z1 I2 J2 q2 => ?_)
  obtain ⟨h4, hz, hI⟩ := q2
  show Ev X k_L_law (2471, [some (vr 1000000), some (vr 0), some (vr 135), some (vr 145), some (vi (i : Int)), some (vi (t9 : Int)), v6], [vi z1]) (MS I2 J2 (cc + c9) (ss + 6 * c9)) _
  refine ev_nL hC (fr' := (2474, [some (vr 1000000), some (vr 0), some (vr 135), some (vr 145), some (vi (i : Int)), some (vi (t9 : Int)), some (vi z1)], [vr 135])) (S' := MS I2 J2 (cc + c9) (ss + 6 * c9)) 2 rfl ?_
  refine ev_cv (hC _ _ rfl) rfl rfl ⟨Nat.le_of_ble_eq_true rfl, Nat.le_of_ble_eq_true rfl⟩ (sp_thrown X _ _ _ _ h4) ?_
  show Ev X k_L_law (2477, [some (vr 1000000), some (vr 0), some (vr 135), some (vr 145), some (vi (i : Int)), some (vi (t9 : Int)), some (vi z1)], [vi (t9 : Int)]) (MS I2 J2 (cc + c9) (ss + 6 * c9)) _
  refine ev_nL hC (fr' := (2479, [some (vr 1000000), some (vr 0), some (vr 135), some (vr 145), some (vi (i : Int)), some (vi (t9 : Int)), some (vi z1)], [vi (t9 : Int), vi (t9 : Int)])) (S' := MS I2 J2 (cc + c9) (ss + 6 * c9)) 1 rfl ?_
  refine ev_ic (c := .eq) (off := 5) (hC _ _ rfl) (by decide) (fun (g1 : (t9 : Int) = (t9 : Int)) => ?_) (fun (g1 : ¬ ((t9 : Int) = (t9 : Int))) => False.elim (g1 rfl))
  show Ev X k_L_law (2484, [some (vr 1000000), some (vr 0), some (vr 135), some (vr 145), some (vi (i : Int)), some (vi (t9 : Int)), some (vi z1)], []) (MS I2 J2 (cc + c9) (ss + 6 * c9)) _
  refine ev_nL hC (fr' := (2486, [some (vr 1000000), some (vr 0), some (vr 135), some (vr 145), some (vi (i : Int)), some (vi (t9 : Int)), some (vi z1)], [vi (t9 : Int)])) (S' := MS I2 J2 (cc + c9) (ss + 6 * c9)) 1 rfl ?_
  refine ev_if (c := .ne) (off := 15) (hC _ _ rfl) (by decide) (fun (g2 : (t9 : Int) ≠ 0) => ?_) (fun (g2 : ¬ ((t9 : Int) ≠ 0)) => ?_)
  · show Ev X k_L_law (2501, [some (vr 1000000), some (vr 0), some (vr 135), some (vr 145), some (vi (i : Int)), some (vi (t9 : Int)), some (vi z1)], []) (MS I2 J2 (cc + c9) (ss + 6 * c9)) _
    refine ev_nL hC (fr' := (2672, [some (vr 1000000), some (vr 0), some (vr 135), some (vr 145), some (vi (i : Int)), some (vi (t9 : Int)), some (vi z1)], [])) (S' := MS I2 J2 (cc + c9) (ss + 6 * c9)) 1 rfl ?_
    exact K _ _ _ _ _ hc hI
  · show Ev X k_L_law (2489, [some (vr 1000000), some (vr 0), some (vr 135), some (vr 145), some (vi (i : Int)), some (vi (t9 : Int)), some (vi z1)], []) (MS I2 J2 (cc + c9) (ss + 6 * c9)) _
    refine ev_nL hC (fr' := (2491, [some (vr 1000000), some (vr 0), some (vr 135), some (vr 145), some (vi (i : Int)), some (vi (t9 : Int)), some (vi z1)], [vi 0, vr 145])) (S' := MS I2 J2 (cc + c9) (ss + 6 * c9)) 2 rfl ?_
    refine ev_laN (j := 0) (z := (J2 145 0)) (hC _ _ rfl) rfl (by omega) (by omega) (rfl) ?_
    show Ev X k_L_law (2492, [some (vr 1000000), some (vr 0), some (vr 135), some (vr 145), some (vi (i : Int)), some (vi (t9 : Int)), some (vi z1)], [vl (J2 145 0)]) (MS I2 J2 (cc + c9) (ss + 6 * c9)) _
    refine ev_nL hC (fr' := (2495, [some (vr 1000000), some (vr 0), some (vr 135), some (vr 145), some (vi (i : Int)), some (vi (t9 : Int)), some (vi z1)], [vl z1, vl (J2 145 0)])) (S' := MS I2 J2 (cc + c9) (ss + 6 * c9)) 2 rfl ?_
    refine ev_lc (c := .eq) (off := 5) (hC _ _ rfl) (hC _ _ rfl) (by decide) (fun (g3 : (J2 145 0) = z1) => ?_) (fun (g3 : ¬ ((J2 145 0) = z1)) => False.elim (g3 (hz (by omega)).1))
    show Ev X k_L_law (2501, [some (vr 1000000), some (vr 0), some (vr 135), some (vr 145), some (vi (i : Int)), some (vi (t9 : Int)), some (vi z1)], []) (MS I2 J2 (cc + c9) (ss + 6 * c9)) _
    refine ev_nL hC (fr' := (2672, [some (vr 1000000), some (vr 0), some (vr 135), some (vr 145), some (vi (i : Int)), some (vi (t9 : Int)), some (vi z1)], [])) (S' := MS I2 J2 (cc + c9) (ss + 6 * c9)) 1 rfl ?_
    exact K _ _ _ _ _ hc hI
set_option maxRecDepth 100000 in
noncomputable def cl_writeIcon : List (Nat × AI) := [(2504, .aload_n 1, 1, (0, 0, 0)), (2505, .aload_n 0, 1, (0, 0, 0)), (2506, .iload 4, 2, (0, 0, 0)), (2508, .iconst 1, 1, (0, 0, 0)), (2509, .iadd, 1, (0, 0, 0)), (2510, .iaload, 1, (0, 0, 0)), (2511, .aload_n 0, 1, (0, 0, 0)), (2512, .iload 4, 2, (0, 0, 0)), (2514, .iconst 2, 1, (0, 0, 0)), (2515, .iadd, 1, (0, 0, 0)), (2516, .iaload, 1, (0, 0, 0)), (2517, .aload_n 3, 1, (0, 0, 0)), (2518, .invokestatic 241, 3, (10, 279, 4)), (2521, .istore 5, 2, (0, 0, 0)), (2523, .aload_n 2, 1, (0, 0, 0)), (2524, .aload_n 0, 1, (0, 0, 0)), (2525, .iload 4, 2, (0, 0, 0)), (2527, .iconst 1, 1, (0, 0, 0)), (2528, .iadd, 1, (0, 0, 0)), (2529, .iaload, 1, (0, 0, 0)), (2530, .aload_n 0, 1, (0, 0, 0)), (2531, .iload 4, 2, (0, 0, 0)), (2533, .iconst 2, 1, (0, 0, 0)), (2534, .iadd, 1, (0, 0, 0)), (2535, .iaload, 1, (0, 0, 0)), (2536, .invokevirtual 243, 3, (1, 157, 2)), (2539, .istore 6, 2, (0, 0, 0)), (2541, .aload_n 2, 1, (0, 0, 0)), (2542, .invokevirtual 133, 3, (1, 56, 0)), (2545, .iload 5, 2, (0, 0, 0)), (2547, .if_icmp .eq 5, 3, (0, 0, 0)), (2550, .iconst 0, 1, (0, 0, 0)), (2551, .ireturn, 1, (1, 0, 0)), (2552, .iload 5, 2, (0, 0, 0)), (2554, .ifCond .ne 15, 3, (0, 0, 0)), (2557, .aload_n 3, 1, (0, 0, 0)), (2558, .iconst 0, 1, (0, 0, 0)), (2559, .laload, 1, (0, 0, 0)), (2560, .iload 6, 2, (0, 0, 0)), (2562, .i2l, 1, (0, 0, 0)), (2563, .lcmp, 1, (0, 0, 0)), (2564, .ifCond .eq 5, 3, (0, 0, 0)), (2567, .iconst 0, 1, (0, 0, 0)), (2568, .ireturn, 1, (1, 0, 0)), (2569, .goto 103, 3, (0, 0, 0))]
set_option maxRecDepth 100000 in
theorem ck_writeIcon : lkS cl_writeIcon k_L_law := lkS_of (by decide +kernel)
theorem lw_writeIcon (X : AX) (I J : Nat → Nat → Int) (cc ss : Nat) {Q : (Option AV ⊕ Nat) → AS → Prop} (i : Nat) (hi : i + 6 ≤ X.1) (h72 : X.1 ≤ 3072) (v5 v6 : Option AV) (H : Two X k_L_writeIcon k_X9_writeIcon (0, [some (vr 0), some (vi (X.2 (i + 1))), some (vi (X.2 (i + 2))), some (vr 145), none], []) (0, [some (vr 135), some (vi (X.2 (i + 1))), some (vi (X.2 (i + 2))), none, none], []) (fun _ => True) I J cc ss) (K : ∀ I' J' c v5 v6, c ≤ 1 → INV I' J' → Ev X k_L_law (2672, [some (vr 1000000), some (vr 0), some (vr 135), some (vr 145), some (vi (i : Int)), v5, v6], []) (MS I' J' (cc + c) (ss + 6 * c)) Q) : Ev X k_L_law (2504, [some (vr 1000000), some (vr 0), some (vr 135), some (vr 145), some (vi (i : Int)), v5, v6], []) (MS I J cc ss) (Q) := by
  have hC := ck_writeIcon
  refine ev_nL hC (fr' := (2509, [some (vr 1000000), some (vr 0), some (vr 135), some (vr 145), some (vi (i : Int)), v5, v6], [vi 1, vi (i : Int), vr 1000000, vr 0])) (S' := MS I J cc ss) 4 rfl ?_
  refine ev_add (z := (i : Int) + 1) (hC _ _ rfl) (by omega) (by omega) (by omega) ?_
  show Ev X k_L_law (2510, [some (vr 1000000), some (vr 0), some (vr 135), some (vr 145), some (vi (i : Int)), v5, v6], [vi ((i : Int) + 1), vr 1000000, vr 0]) (MS I J cc ss) _
  refine ev_xsN (j := i + 1) (hC _ _ rfl) rfl (by omega) (by omega) rfl ?_
  show Ev X k_L_law (2511, [some (vr 1000000), some (vr 0), some (vr 135), some (vr 145), some (vi (i : Int)), v5, v6], [vi (X.2 (i + 1)), vr 0]) (MS I J cc ss) _
  refine ev_nL hC (fr' := (2515, [some (vr 1000000), some (vr 0), some (vr 135), some (vr 145), some (vi (i : Int)), v5, v6], [vi 2, vi (i : Int), vr 1000000, vi (X.2 (i + 1)), vr 0])) (S' := MS I J cc ss) 3 rfl ?_
  refine ev_add (z := (i : Int) + 2) (hC _ _ rfl) (by omega) (by omega) (by omega) ?_
  show Ev X k_L_law (2516, [some (vr 1000000), some (vr 0), some (vr 135), some (vr 145), some (vi (i : Int)), v5, v6], [vi ((i : Int) + 2), vr 1000000, vi (X.2 (i + 1)), vr 0]) (MS I J cc ss) _
  refine ev_xsN (j := i + 2) (hC _ _ rfl) rfl (by omega) (by omega) rfl ?_
  show Ev X k_L_law (2517, [some (vr 1000000), some (vr 0), some (vr 135), some (vr 145), some (vi (i : Int)), v5, v6], [vi (X.2 (i + 2)), vi (X.2 (i + 1)), vr 0]) (MS I J cc ss) _
  refine ev_nL hC (fr' := (2518, [some (vr 1000000), some (vr 0), some (vr 135), some (vr 145), some (vi (i : Int)), v5, v6], [vr 145, vi (X.2 (i + 2)), vi (X.2 (i + 1)), vr 0])) (S' := MS I J cc ss) 1 rfl ?_
  refine ev_ct (hC _ _ rfl) rfl rfl ⟨Nat.le_of_ble_eq_true rfl, Nat.le_of_ble_eq_true rfl⟩ (H) (fun t9 c9 I1 J1 q1 => ?_)
  obtain ⟨hc, hr⟩ := q1
  show Ev X k_L_law (2521, [some (vr 1000000), some (vr 0), some (vr 135), some (vr 145), some (vi (i : Int)), v5, v6], [vi (t9 : Int)]) (MS I1 J1 (cc + c9) (ss + 6 * c9)) _
  refine ev_nL hC (fr' := (2528, [some (vr 1000000), some (vr 0), some (vr 135), some (vr 145), some (vi (i : Int)), some (vi (t9 : Int)), v6], [vi 1, vi (i : Int), vr 1000000, vr 135])) (S' := MS I1 J1 (cc + c9) (ss + 6 * c9)) 5 rfl ?_
  refine ev_add (z := (i : Int) + 1) (hC _ _ rfl) (by omega) (by omega) (by omega) ?_
  show Ev X k_L_law (2529, [some (vr 1000000), some (vr 0), some (vr 135), some (vr 145), some (vi (i : Int)), some (vi (t9 : Int)), v6], [vi ((i : Int) + 1), vr 1000000, vr 135]) (MS I1 J1 (cc + c9) (ss + 6 * c9)) _
  refine ev_xsN (j := i + 1) (hC _ _ rfl) rfl (by omega) (by omega) rfl ?_
  show Ev X k_L_law (2530, [some (vr 1000000), some (vr 0), some (vr 135), some (vr 145), some (vi (i : Int)), some (vi (t9 : Int)), v6], [vi (X.2 (i + 1)), vr 135]) (MS I1 J1 (cc + c9) (ss + 6 * c9)) _
  refine ev_nL hC (fr' := (2534, [some (vr 1000000), some (vr 0), some (vr 135), some (vr 145), some (vi (i : Int)), some (vi (t9 : Int)), v6], [vi 2, vi (i : Int), vr 1000000, vi (X.2 (i + 1)), vr 135])) (S' := MS I1 J1 (cc + c9) (ss + 6 * c9)) 3 rfl ?_
  refine ev_add (z := (i : Int) + 2) (hC _ _ rfl) (by omega) (by omega) (by omega) ?_
  show Ev X k_L_law (2535, [some (vr 1000000), some (vr 0), some (vr 135), some (vr 145), some (vi (i : Int)), some (vi (t9 : Int)), v6], [vi ((i : Int) + 2), vr 1000000, vi (X.2 (i + 1)), vr 135]) (MS I1 J1 (cc + c9) (ss + 6 * c9)) _
  refine ev_xsN (j := i + 2) (hC _ _ rfl) rfl (by omega) (by omega) rfl ?_
  show Ev X k_L_law (2536, [some (vr 1000000), some (vr 0), some (vr 135), some (vr 145), some (vi (i : Int)), some (vi (t9 : Int)), v6], [vi (X.2 (i + 2)), vi (X.2 (i + 1)), vr 135]) (MS I1 J1 (cc + c9) (ss + 6 * c9)) _
  refine ev_cz (hC _ _ rfl) rfl rfl ⟨Nat.le_of_ble_eq_true rfl, Nat.le_of_ble_eq_true rfl⟩ (hr) (fun z1 I2 J2 q2 => ?_)
  obtain ⟨h4, hz, hI⟩ := q2
  show Ev X k_L_law (2539, [some (vr 1000000), some (vr 0), some (vr 135), some (vr 145), some (vi (i : Int)), some (vi (t9 : Int)), v6], [vi z1]) (MS I2 J2 (cc + c9) (ss + 6 * c9)) _
  refine ev_nL hC (fr' := (2542, [some (vr 1000000), some (vr 0), some (vr 135), some (vr 145), some (vi (i : Int)), some (vi (t9 : Int)), some (vi z1)], [vr 135])) (S' := MS I2 J2 (cc + c9) (ss + 6 * c9)) 2 rfl ?_
  refine ev_cv (hC _ _ rfl) rfl rfl ⟨Nat.le_of_ble_eq_true rfl, Nat.le_of_ble_eq_true rfl⟩ (sp_thrown X _ _ _ _ h4) ?_
  show Ev X k_L_law (2545, [some (vr 1000000), some (vr 0), some (vr 135), some (vr 145), some (vi (i : Int)), some (vi (t9 : Int)), some (vi z1)], [vi (t9 : Int)]) (MS I2 J2 (cc + c9) (ss + 6 * c9)) _
  refine ev_nL hC (fr' := (2547, [some (vr 1000000), some (vr 0), some (vr 135), some (vr 145), some (vi (i : Int)), some (vi (t9 : Int)), some (vi z1)], [vi (t9 : Int), vi (t9 : Int)])) (S' := MS I2 J2 (cc + c9) (ss + 6 * c9)) 1 rfl ?_
  refine ev_ic (c := .eq) (off := 5) (hC _ _ rfl) (by decide) (fun (g1 : (t9 : Int) = (t9 : Int)) => ?_) (fun (g1 : ¬ ((t9 : Int) = (t9 : Int))) => False.elim (g1 rfl))
  show Ev X k_L_law (2552, [some (vr 1000000), some (vr 0), some (vr 135), some (vr 145), some (vi (i : Int)), some (vi (t9 : Int)), some (vi z1)], []) (MS I2 J2 (cc + c9) (ss + 6 * c9)) _
  refine ev_nL hC (fr' := (2554, [some (vr 1000000), some (vr 0), some (vr 135), some (vr 145), some (vi (i : Int)), some (vi (t9 : Int)), some (vi z1)], [vi (t9 : Int)])) (S' := MS I2 J2 (cc + c9) (ss + 6 * c9)) 1 rfl ?_
  refine ev_if (c := .ne) (off := 15) (hC _ _ rfl) (by decide) (fun (g2 : (t9 : Int) ≠ 0) => ?_) (fun (g2 : ¬ ((t9 : Int) ≠ 0)) => ?_)
  · show Ev X k_L_law (2569, [some (vr 1000000), some (vr 0), some (vr 135), some (vr 145), some (vi (i : Int)), some (vi (t9 : Int)), some (vi z1)], []) (MS I2 J2 (cc + c9) (ss + 6 * c9)) _
    refine ev_nL hC (fr' := (2672, [some (vr 1000000), some (vr 0), some (vr 135), some (vr 145), some (vi (i : Int)), some (vi (t9 : Int)), some (vi z1)], [])) (S' := MS I2 J2 (cc + c9) (ss + 6 * c9)) 1 rfl ?_
    exact K _ _ _ _ _ hc hI
  · show Ev X k_L_law (2557, [some (vr 1000000), some (vr 0), some (vr 135), some (vr 145), some (vi (i : Int)), some (vi (t9 : Int)), some (vi z1)], []) (MS I2 J2 (cc + c9) (ss + 6 * c9)) _
    refine ev_nL hC (fr' := (2559, [some (vr 1000000), some (vr 0), some (vr 135), some (vr 145), some (vi (i : Int)), some (vi (t9 : Int)), some (vi z1)], [vi 0, vr 145])) (S' := MS I2 J2 (cc + c9) (ss + 6 * c9)) 2 rfl ?_
    refine ev_laN (j := 0) (z := (J2 145 0)) (hC _ _ rfl) rfl (by omega) (by omega) (rfl) ?_
    show Ev X k_L_law (2560, [some (vr 1000000), some (vr 0), some (vr 135), some (vr 145), some (vi (i : Int)), some (vi (t9 : Int)), some (vi z1)], [vl (J2 145 0)]) (MS I2 J2 (cc + c9) (ss + 6 * c9)) _
    refine ev_nL hC (fr' := (2563, [some (vr 1000000), some (vr 0), some (vr 135), some (vr 145), some (vi (i : Int)), some (vi (t9 : Int)), some (vi z1)], [vl z1, vl (J2 145 0)])) (S' := MS I2 J2 (cc + c9) (ss + 6 * c9)) 2 rfl ?_
    refine ev_lc (c := .eq) (off := 5) (hC _ _ rfl) (hC _ _ rfl) (by decide) (fun (g3 : (J2 145 0) = z1) => ?_) (fun (g3 : ¬ ((J2 145 0) = z1)) => False.elim (g3 (hz (by omega)).1))
    show Ev X k_L_law (2569, [some (vr 1000000), some (vr 0), some (vr 135), some (vr 145), some (vi (i : Int)), some (vi (t9 : Int)), some (vi z1)], []) (MS I2 J2 (cc + c9) (ss + 6 * c9)) _
    refine ev_nL hC (fr' := (2672, [some (vr 1000000), some (vr 0), some (vr 135), some (vr 145), some (vi (i : Int)), some (vi (t9 : Int)), some (vi z1)], [])) (S' := MS I2 J2 (cc + c9) (ss + 6 * c9)) 1 rfl ?_
    exact K _ _ _ _ _ hc hI
set_option maxRecDepth 100000 in
noncomputable def cl_writtenByte : List (Nat × AI) := [(2572, .aload_n 1, 1, (0, 0, 0)), (2573, .aload_n 0, 1, (0, 0, 0)), (2574, .iload 4, 2, (0, 0, 0)), (2576, .iconst 1, 1, (0, 0, 0)), (2577, .iadd, 1, (0, 0, 0)), (2578, .iaload, 1, (0, 0, 0)), (2579, .aload_n 3, 1, (0, 0, 0)), (2580, .invokestatic 244, 3, (10, 280, 3)), (2583, .istore 5, 2, (0, 0, 0)), (2585, .aload_n 2, 1, (0, 0, 0)), (2586, .aload_n 0, 1, (0, 0, 0)), (2587, .iload 4, 2, (0, 0, 0)), (2589, .iconst 1, 1, (0, 0, 0)), (2590, .iadd, 1, (0, 0, 0)), (2591, .iaload, 1, (0, 0, 0)), (2592, .invokevirtual 246, 3, (1, 158, 1)), (2595, .istore 6, 2, (0, 0, 0)), (2597, .aload_n 2, 1, (0, 0, 0)), (2598, .invokevirtual 133, 3, (1, 56, 0)), (2601, .iload 5, 2, (0, 0, 0)), (2603, .if_icmp .eq 5, 3, (0, 0, 0)), (2606, .iconst 0, 1, (0, 0, 0)), (2607, .ireturn, 1, (1, 0, 0)), (2608, .iload 5, 2, (0, 0, 0)), (2610, .ifCond .ne 15, 3, (0, 0, 0)), (2613, .aload_n 3, 1, (0, 0, 0)), (2614, .iconst 0, 1, (0, 0, 0)), (2615, .laload, 1, (0, 0, 0)), (2616, .iload 6, 2, (0, 0, 0)), (2618, .i2l, 1, (0, 0, 0)), (2619, .lcmp, 1, (0, 0, 0)), (2620, .ifCond .eq 5, 3, (0, 0, 0)), (2623, .iconst 0, 1, (0, 0, 0)), (2624, .ireturn, 1, (1, 0, 0)), (2625, .goto 47, 3, (0, 0, 0))]
set_option maxRecDepth 100000 in
theorem ck_writtenByte : lkS cl_writtenByte k_L_law := lkS_of (by decide +kernel)
theorem lw_writtenByte (X : AX) (I J : Nat → Nat → Int) (cc ss : Nat) {Q : (Option AV ⊕ Nat) → AS → Prop} (i : Nat) (hi : i + 6 ≤ X.1) (h72 : X.1 ≤ 3072) (v5 v6 : Option AV) (H : Two X k_L_writtenByte k_X9_writtenByte (0, [some (vr 0), some (vi (X.2 (i + 1))), some (vr 145), none], []) (0, [some (vr 135), some (vi (X.2 (i + 1)))], []) (fun _ => True) I J cc ss) (K : ∀ I' J' c v5 v6, c ≤ 1 → INV I' J' → Ev X k_L_law (2672, [some (vr 1000000), some (vr 0), some (vr 135), some (vr 145), some (vi (i : Int)), v5, v6], []) (MS I' J' (cc + c) (ss + 6 * c)) Q) : Ev X k_L_law (2572, [some (vr 1000000), some (vr 0), some (vr 135), some (vr 145), some (vi (i : Int)), v5, v6], []) (MS I J cc ss) (Q) := by
  have hC := ck_writtenByte
  refine ev_nL hC (fr' := (2577, [some (vr 1000000), some (vr 0), some (vr 135), some (vr 145), some (vi (i : Int)), v5, v6], [vi 1, vi (i : Int), vr 1000000, vr 0])) (S' := MS I J cc ss) 4 rfl ?_
  refine ev_add (z := (i : Int) + 1) (hC _ _ rfl) (by omega) (by omega) (by omega) ?_
  show Ev X k_L_law (2578, [some (vr 1000000), some (vr 0), some (vr 135), some (vr 145), some (vi (i : Int)), v5, v6], [vi ((i : Int) + 1), vr 1000000, vr 0]) (MS I J cc ss) _
  refine ev_xsN (j := i + 1) (hC _ _ rfl) rfl (by omega) (by omega) rfl ?_
  show Ev X k_L_law (2579, [some (vr 1000000), some (vr 0), some (vr 135), some (vr 145), some (vi (i : Int)), v5, v6], [vi (X.2 (i + 1)), vr 0]) (MS I J cc ss) _
  refine ev_nL hC (fr' := (2580, [some (vr 1000000), some (vr 0), some (vr 135), some (vr 145), some (vi (i : Int)), v5, v6], [vr 145, vi (X.2 (i + 1)), vr 0])) (S' := MS I J cc ss) 1 rfl ?_
  refine ev_ct (hC _ _ rfl) rfl rfl ⟨Nat.le_of_ble_eq_true rfl, Nat.le_of_ble_eq_true rfl⟩ (H) (fun t9 c9 I1 J1 q1 => ?_)
  obtain ⟨hc, hr⟩ := q1
  show Ev X k_L_law (2583, [some (vr 1000000), some (vr 0), some (vr 135), some (vr 145), some (vi (i : Int)), v5, v6], [vi (t9 : Int)]) (MS I1 J1 (cc + c9) (ss + 6 * c9)) _
  refine ev_nL hC (fr' := (2590, [some (vr 1000000), some (vr 0), some (vr 135), some (vr 145), some (vi (i : Int)), some (vi (t9 : Int)), v6], [vi 1, vi (i : Int), vr 1000000, vr 135])) (S' := MS I1 J1 (cc + c9) (ss + 6 * c9)) 5 rfl ?_
  refine ev_add (z := (i : Int) + 1) (hC _ _ rfl) (by omega) (by omega) (by omega) ?_
  show Ev X k_L_law (2591, [some (vr 1000000), some (vr 0), some (vr 135), some (vr 145), some (vi (i : Int)), some (vi (t9 : Int)), v6], [vi ((i : Int) + 1), vr 1000000, vr 135]) (MS I1 J1 (cc + c9) (ss + 6 * c9)) _
  refine ev_xsN (j := i + 1) (hC _ _ rfl) rfl (by omega) (by omega) rfl ?_
  show Ev X k_L_law (2592, [some (vr 1000000), some (vr 0), some (vr 135), some (vr 145), some (vi (i : Int)), some (vi (t9 : Int)), v6], [vi (X.2 (i + 1)), vr 135]) (MS I1 J1 (cc + c9) (ss + 6 * c9)) _
  refine ev_cz (hC _ _ rfl) rfl rfl ⟨Nat.le_of_ble_eq_true rfl, Nat.le_of_ble_eq_true rfl⟩ (hr) (fun z1 I2 J2 q2 => ?_)
  obtain ⟨h4, hz, hI⟩ := q2
  show Ev X k_L_law (2595, [some (vr 1000000), some (vr 0), some (vr 135), some (vr 145), some (vi (i : Int)), some (vi (t9 : Int)), v6], [vi z1]) (MS I2 J2 (cc + c9) (ss + 6 * c9)) _
  refine ev_nL hC (fr' := (2598, [some (vr 1000000), some (vr 0), some (vr 135), some (vr 145), some (vi (i : Int)), some (vi (t9 : Int)), some (vi z1)], [vr 135])) (S' := MS I2 J2 (cc + c9) (ss + 6 * c9)) 2 rfl ?_
  refine ev_cv (hC _ _ rfl) rfl rfl ⟨Nat.le_of_ble_eq_true rfl, Nat.le_of_ble_eq_true rfl⟩ (sp_thrown X _ _ _ _ h4) ?_
  show Ev X k_L_law (2601, [some (vr 1000000), some (vr 0), some (vr 135), some (vr 145), some (vi (i : Int)), some (vi (t9 : Int)), some (vi z1)], [vi (t9 : Int)]) (MS I2 J2 (cc + c9) (ss + 6 * c9)) _
  refine ev_nL hC (fr' := (2603, [some (vr 1000000), some (vr 0), some (vr 135), some (vr 145), some (vi (i : Int)), some (vi (t9 : Int)), some (vi z1)], [vi (t9 : Int), vi (t9 : Int)])) (S' := MS I2 J2 (cc + c9) (ss + 6 * c9)) 1 rfl ?_
  refine ev_ic (c := .eq) (off := 5) (hC _ _ rfl) (by decide) (fun (g1 : (t9 : Int) = (t9 : Int)) => ?_) (fun (g1 : ¬ ((t9 : Int) = (t9 : Int))) => False.elim (g1 rfl))
  show Ev X k_L_law (2608, [some (vr 1000000), some (vr 0), some (vr 135), some (vr 145), some (vi (i : Int)), some (vi (t9 : Int)), some (vi z1)], []) (MS I2 J2 (cc + c9) (ss + 6 * c9)) _
  refine ev_nL hC (fr' := (2610, [some (vr 1000000), some (vr 0), some (vr 135), some (vr 145), some (vi (i : Int)), some (vi (t9 : Int)), some (vi z1)], [vi (t9 : Int)])) (S' := MS I2 J2 (cc + c9) (ss + 6 * c9)) 1 rfl ?_
  refine ev_if (c := .ne) (off := 15) (hC _ _ rfl) (by decide) (fun (g2 : (t9 : Int) ≠ 0) => ?_) (fun (g2 : ¬ ((t9 : Int) ≠ 0)) => ?_)
  · show Ev X k_L_law (2625, [some (vr 1000000), some (vr 0), some (vr 135), some (vr 145), some (vi (i : Int)), some (vi (t9 : Int)), some (vi z1)], []) (MS I2 J2 (cc + c9) (ss + 6 * c9)) _
    refine ev_nL hC (fr' := (2672, [some (vr 1000000), some (vr 0), some (vr 135), some (vr 145), some (vi (i : Int)), some (vi (t9 : Int)), some (vi z1)], [])) (S' := MS I2 J2 (cc + c9) (ss + 6 * c9)) 1 rfl ?_
    exact K _ _ _ _ _ hc hI
  · show Ev X k_L_law (2613, [some (vr 1000000), some (vr 0), some (vr 135), some (vr 145), some (vi (i : Int)), some (vi (t9 : Int)), some (vi z1)], []) (MS I2 J2 (cc + c9) (ss + 6 * c9)) _
    refine ev_nL hC (fr' := (2615, [some (vr 1000000), some (vr 0), some (vr 135), some (vr 145), some (vi (i : Int)), some (vi (t9 : Int)), some (vi z1)], [vi 0, vr 145])) (S' := MS I2 J2 (cc + c9) (ss + 6 * c9)) 2 rfl ?_
    refine ev_laN (j := 0) (z := (J2 145 0)) (hC _ _ rfl) rfl (by omega) (by omega) (rfl) ?_
    show Ev X k_L_law (2616, [some (vr 1000000), some (vr 0), some (vr 135), some (vr 145), some (vi (i : Int)), some (vi (t9 : Int)), some (vi z1)], [vl (J2 145 0)]) (MS I2 J2 (cc + c9) (ss + 6 * c9)) _
    refine ev_nL hC (fr' := (2619, [some (vr 1000000), some (vr 0), some (vr 135), some (vr 145), some (vi (i : Int)), some (vi (t9 : Int)), some (vi z1)], [vl z1, vl (J2 145 0)])) (S' := MS I2 J2 (cc + c9) (ss + 6 * c9)) 2 rfl ?_
    refine ev_lc (c := .eq) (off := 5) (hC _ _ rfl) (hC _ _ rfl) (by decide) (fun (g3 : (J2 145 0) = z1) => ?_) (fun (g3 : ¬ ((J2 145 0) = z1)) => False.elim (g3 (hz (by omega)).1))
    show Ev X k_L_law (2625, [some (vr 1000000), some (vr 0), some (vr 135), some (vr 145), some (vi (i : Int)), some (vi (t9 : Int)), some (vi z1)], []) (MS I2 J2 (cc + c9) (ss + 6 * c9)) _
    refine ev_nL hC (fr' := (2672, [some (vr 1000000), some (vr 0), some (vr 135), some (vr 145), some (vi (i : Int)), some (vi (t9 : Int)), some (vi z1)], [])) (S' := MS I2 J2 (cc + c9) (ss + 6 * c9)) 1 rfl ?_
    exact K _ _ _ _ _ hc hI
set_option maxRecDepth 100000 in
noncomputable def cl_undo : List (Nat × AI) := [(2628, .aload_n 1, 1, (0, 0, 0)), (2629, .aload_n 3, 1, (0, 0, 0)), (2630, .invokestatic 247, 3, (10, 281, 2)), (2633, .istore 5, 2, (0, 0, 0)), (2635, .aload_n 2, 1, (0, 0, 0)), (2636, .invokevirtual 250, 3, (1, 59, 0)), (2639, .istore 6, 2, (0, 0, 0)), (2641, .aload_n 2, 1, (0, 0, 0)), (2642, .invokevirtual 133, 3, (1, 56, 0)), (2645, .iload 5, 2, (0, 0, 0)), (2647, .if_icmp .eq 5, 3, (0, 0, 0)), (2650, .iconst 0, 1, (0, 0, 0)), (2651, .ireturn, 1, (1, 0, 0)), (2652, .iload 5, 2, (0, 0, 0)), (2654, .ifCond .ne 15, 3, (0, 0, 0)), (2657, .aload_n 3, 1, (0, 0, 0)), (2658, .iconst 0, 1, (0, 0, 0)), (2659, .laload, 1, (0, 0, 0)), (2660, .iload 6, 2, (0, 0, 0)), (2662, .i2l, 1, (0, 0, 0)), (2663, .lcmp, 1, (0, 0, 0)), (2664, .ifCond .eq 5, 3, (0, 0, 0)), (2667, .iconst 0, 1, (0, 0, 0)), (2668, .ireturn, 1, (1, 0, 0)), (2669, .goto 3, 3, (0, 0, 0))]
set_option maxRecDepth 100000 in
theorem ck_undo : lkS cl_undo k_L_law := lkS_of (by decide +kernel)
theorem lw_undo (X : AX) (I J : Nat → Nat → Int) (cc ss : Nat) {Q : (Option AV ⊕ Nat) → AS → Prop} (i : Nat) (hi : i + 6 ≤ X.1) (h72 : X.1 ≤ 3072) (v5 v6 : Option AV) (H : Two X k_L_undo k_X9_undo (0, [some (vr 0), some (vr 145), none], []) (0, [some (vr 135), none], []) (fun _ => True) I J cc ss) (K : ∀ I' J' c v5 v6, c ≤ 1 → INV I' J' → Ev X k_L_law (2672, [some (vr 1000000), some (vr 0), some (vr 135), some (vr 145), some (vi (i : Int)), v5, v6], []) (MS I' J' (cc + c) (ss + 6 * c)) Q) : Ev X k_L_law (2628, [some (vr 1000000), some (vr 0), some (vr 135), some (vr 145), some (vi (i : Int)), v5, v6], []) (MS I J cc ss) (Q) := by
  have hC := ck_undo
  refine ev_nL hC (fr' := (2630, [some (vr 1000000), some (vr 0), some (vr 135), some (vr 145), some (vi (i : Int)), v5, v6], [vr 145, vr 0])) (S' := MS I J cc ss) 2 rfl ?_
  refine ev_ct (hC _ _ rfl) rfl rfl ⟨Nat.le_of_ble_eq_true rfl, Nat.le_of_ble_eq_true rfl⟩ (H) (fun t9 c9 I1 J1 q1 => ?_)
  obtain ⟨hc, hr⟩ := q1
  show Ev X k_L_law (2633, [some (vr 1000000), some (vr 0), some (vr 135), some (vr 145), some (vi (i : Int)), v5, v6], [vi (t9 : Int)]) (MS I1 J1 (cc + c9) (ss + 6 * c9)) _
  refine ev_nL hC (fr' := (2636, [some (vr 1000000), some (vr 0), some (vr 135), some (vr 145), some (vi (i : Int)), some (vi (t9 : Int)), v6], [vr 135])) (S' := MS I1 J1 (cc + c9) (ss + 6 * c9)) 2 rfl ?_
  refine ev_cz (hC _ _ rfl) rfl rfl ⟨Nat.le_of_ble_eq_true rfl, Nat.le_of_ble_eq_true rfl⟩ (hr) (fun z1 I2 J2 q2 => ?_)
  obtain ⟨h4, hz, hI⟩ := q2
  show Ev X k_L_law (2639, [some (vr 1000000), some (vr 0), some (vr 135), some (vr 145), some (vi (i : Int)), some (vi (t9 : Int)), v6], [vi z1]) (MS I2 J2 (cc + c9) (ss + 6 * c9)) _
  refine ev_nL hC (fr' := (2642, [some (vr 1000000), some (vr 0), some (vr 135), some (vr 145), some (vi (i : Int)), some (vi (t9 : Int)), some (vi z1)], [vr 135])) (S' := MS I2 J2 (cc + c9) (ss + 6 * c9)) 2 rfl ?_
  refine ev_cv (hC _ _ rfl) rfl rfl ⟨Nat.le_of_ble_eq_true rfl, Nat.le_of_ble_eq_true rfl⟩ (sp_thrown X _ _ _ _ h4) ?_
  show Ev X k_L_law (2645, [some (vr 1000000), some (vr 0), some (vr 135), some (vr 145), some (vi (i : Int)), some (vi (t9 : Int)), some (vi z1)], [vi (t9 : Int)]) (MS I2 J2 (cc + c9) (ss + 6 * c9)) _
  refine ev_nL hC (fr' := (2647, [some (vr 1000000), some (vr 0), some (vr 135), some (vr 145), some (vi (i : Int)), some (vi (t9 : Int)), some (vi z1)], [vi (t9 : Int), vi (t9 : Int)])) (S' := MS I2 J2 (cc + c9) (ss + 6 * c9)) 1 rfl ?_
  refine ev_ic (c := .eq) (off := 5) (hC _ _ rfl) (by decide) (fun (g1 : (t9 : Int) = (t9 : Int)) => ?_) (fun (g1 : ¬ ((t9 : Int) = (t9 : Int))) => False.elim (g1 rfl))
  show Ev X k_L_law (2652, [some (vr 1000000), some (vr 0), some (vr 135), some (vr 145), some (vi (i : Int)), some (vi (t9 : Int)), some (vi z1)], []) (MS I2 J2 (cc + c9) (ss + 6 * c9)) _
  refine ev_nL hC (fr' := (2654, [some (vr 1000000), some (vr 0), some (vr 135), some (vr 145), some (vi (i : Int)), some (vi (t9 : Int)), some (vi z1)], [vi (t9 : Int)])) (S' := MS I2 J2 (cc + c9) (ss + 6 * c9)) 1 rfl ?_
  refine ev_if (c := .ne) (off := 15) (hC _ _ rfl) (by decide) (fun (g2 : (t9 : Int) ≠ 0) => ?_) (fun (g2 : ¬ ((t9 : Int) ≠ 0)) => ?_)
  · show Ev X k_L_law (2669, [some (vr 1000000), some (vr 0), some (vr 135), some (vr 145), some (vi (i : Int)), some (vi (t9 : Int)), some (vi z1)], []) (MS I2 J2 (cc + c9) (ss + 6 * c9)) _
    refine ev_nL hC (fr' := (2672, [some (vr 1000000), some (vr 0), some (vr 135), some (vr 145), some (vi (i : Int)), some (vi (t9 : Int)), some (vi z1)], [])) (S' := MS I2 J2 (cc + c9) (ss + 6 * c9)) 1 rfl ?_
    exact K _ _ _ _ _ hc hI
  · show Ev X k_L_law (2657, [some (vr 1000000), some (vr 0), some (vr 135), some (vr 145), some (vi (i : Int)), some (vi (t9 : Int)), some (vi z1)], []) (MS I2 J2 (cc + c9) (ss + 6 * c9)) _
    refine ev_nL hC (fr' := (2659, [some (vr 1000000), some (vr 0), some (vr 135), some (vr 145), some (vi (i : Int)), some (vi (t9 : Int)), some (vi z1)], [vi 0, vr 145])) (S' := MS I2 J2 (cc + c9) (ss + 6 * c9)) 2 rfl ?_
    refine ev_laN (j := 0) (z := (J2 145 0)) (hC _ _ rfl) rfl (by omega) (by omega) (rfl) ?_
    show Ev X k_L_law (2660, [some (vr 1000000), some (vr 0), some (vr 135), some (vr 145), some (vi (i : Int)), some (vi (t9 : Int)), some (vi z1)], [vl (J2 145 0)]) (MS I2 J2 (cc + c9) (ss + 6 * c9)) _
    refine ev_nL hC (fr' := (2663, [some (vr 1000000), some (vr 0), some (vr 135), some (vr 145), some (vi (i : Int)), some (vi (t9 : Int)), some (vi z1)], [vl z1, vl (J2 145 0)])) (S' := MS I2 J2 (cc + c9) (ss + 6 * c9)) 2 rfl ?_
    refine ev_lc (c := .eq) (off := 5) (hC _ _ rfl) (hC _ _ rfl) (by decide) (fun (g3 : (J2 145 0) = z1) => ?_) (fun (g3 : ¬ ((J2 145 0) = z1)) => False.elim (g3 (hz (by omega)).1))
    show Ev X k_L_law (2669, [some (vr 1000000), some (vr 0), some (vr 135), some (vr 145), some (vi (i : Int)), some (vi (t9 : Int)), some (vi z1)], []) (MS I2 J2 (cc + c9) (ss + 6 * c9)) _
    refine ev_nL hC (fr' := (2672, [some (vr 1000000), some (vr 0), some (vr 135), some (vr 145), some (vi (i : Int)), some (vi (t9 : Int)), some (vi z1)], [])) (S' := MS I2 J2 (cc + c9) (ss + 6 * c9)) 1 rfl ?_
    exact K _ _ _ _ _ hc hI
theorem IV.qn {I J : F2} {g : F1} {hs : Nat → F1} {m : Nat} {tx : F1} {fl n : Nat} {e : Int} {D : Nat → Nat → Bool} {I1 I2 : F2} (h : IV I J g hs m tx fl n e D) (h1 : scrC I I1) (h2 : scrM (up2 I1 135 4 0) I2) : IV I2 J g hs m tx fl n e D :=
  h.fr (fun a ha => (h2.1 a (by omega) (by omega) (by omega) (by omega) (by omega)).trans ((up2_row _ _ _ _ (by omega)).trans (h1 a (by omega)))) (fun f hf => (h2.2 f (by omega) (by omega)).trans ((up2_ne2 _ _ _ _ (by omega)).trans (congrFun (h1 135 (by omega)) f))) (fun a ha => rfl)
set_option maxRecDepth 100000 in
noncomputable def cl_findPart : List (Nat × AI) := [(741, .aload_n 1, 1, (0, 0, 0)), (742, .aload_n 0, 1, (0, 0, 0)), (743, .iload 4, 2, (0, 0, 0)), (745, .iconst 1, 1, (0, 0, 0)), (746, .iadd, 1, (0, 0, 0)), (747, .iaload, 1, (0, 0, 0)), (748, .i2l, 1, (0, 0, 0)), (749, .bipush 32, 2, (0, 0, 0)), (751, .lshl, 1, (0, 0, 0)), (752, .aload_n 0, 1, (0, 0, 0)), (753, .iload 4, 2, (0, 0, 0)), (755, .iconst 2, 1, (0, 0, 0)), (756, .iadd, 1, (0, 0, 0)), (757, .iaload, 1, (0, 0, 0)), (758, .i2l, 1, (0, 0, 0)), (759, .ldc2_w 163, 3, (0, 4294967295, 0)), (762, .land, 1, (0, 0, 0)), (763, .lor, 1, (0, 0, 0)), (764, .invokevirtual 165, 3, (1, 10, 1)), (767, .aload_n 2, 1, (0, 0, 0)), (768, .aload_n 0, 1, (0, 0, 0)), (769, .iload 4, 2, (0, 0, 0)), (771, .iconst 1, 1, (0, 0, 0)), (772, .iadd, 1, (0, 0, 0)), (773, .iaload, 1, (0, 0, 0)), (774, .i2l, 1, (0, 0, 0)), (775, .bipush 32, 2, (0, 0, 0)), (777, .lshl, 1, (0, 0, 0)), (778, .aload_n 0, 1, (0, 0, 0)), (779, .iload 4, 2, (0, 0, 0)), (781, .iconst 2, 1, (0, 0, 0)), (782, .iadd, 1, (0, 0, 0)), (783, .iaload, 1, (0, 0, 0)), (784, .i2l, 1, (0, 0, 0)), (785, .ldc2_w 163, 3, (0, 4294967295, 0)), (788, .land, 1, (0, 0, 0)), (789, .lor, 1, (0, 0, 0)), (790, .invokevirtual 169, 3, (1, 108, 1)), (793, .if_icmp .eq 1879, 3, (0, 0, 0)), (796, .iconst 0, 1, (0, 0, 0)), (797, .ireturn, 1, (1, 0, 0))]
set_option maxRecDepth 100000 in
theorem ck_findPart : lkS cl_findPart k_L_law := lkS_of (by decide +kernel)
theorem lw_findPart (X : AX) (I J : Nat → Nat → Int) (cc ss : Nat) {Q : (Option AV ⊕ Nat) → AS → Prop} (i : Nat) (hi : i + 6 ≤ X.1) (h72 : X.1 ≤ 3072) (v5 v6 : Option AV) (f : Int → Int) (hI : INV I J) (HC : ∀ x, Ev X k_X8_findPart (0, [some (vr 0), some (vl x), none], []) (MS I J cc ss) (PV cc ss (some (vi (f x))) (fun I' J' => J' = J ∧ scrC I I'))) (HR : ∀ x I1, scrC I I1 → Ev X k_X9_findPart (0, [some (vr 135), some (vl x), none], []) (MS I1 J cc ss) (PV cc ss (some (vi (f x))) (fun I' J' => J' = J ∧ scrM (up2 I1 135 4 0) I'))) (K : ∀ I' J' c v5 v6, c ≤ 1 → INV I' J' → Ev X k_L_law (2672, [some (vr 1000000), some (vr 0), some (vr 135), some (vr 145), some (vi (i : Int)), v5, v6], []) (MS I' J' (cc + c) (ss + 6 * c)) Q) : Ev X k_L_law (741, [some (vr 1000000), some (vr 0), some (vr 135), some (vr 145), some (vi (i : Int)), v5, v6], []) (MS I J cc ss) (Q) := by
  have hC := ck_findPart
  refine ev_nL hC (fr' := (746, [some (vr 1000000), some (vr 0), some (vr 135), some (vr 145), some (vi (i : Int)), v5, v6], [vi 1, vi (i : Int), vr 1000000, vr 0])) (S' := MS I J cc ss) 4 rfl ?_
  refine ev_add (z := (i : Int) + 1) (hC _ _ rfl) (by omega) (by omega) (by omega) ?_
  show Ev X k_L_law (747, [some (vr 1000000), some (vr 0), some (vr 135), some (vr 145), some (vi (i : Int)), v5, v6], [vi ((i : Int) + 1), vr 1000000, vr 0]) (MS I J cc ss) _
  refine ev_xsN (j := i + 1) (hC _ _ rfl) rfl (by omega) (by omega) rfl ?_
  show Ev X k_L_law (748, [some (vr 1000000), some (vr 0), some (vr 135), some (vr 145), some (vi (i : Int)), v5, v6], [vi (X.2 (i + 1)), vr 0]) (MS I J cc ss) _
  refine ev_nL hC (fr' := (756, [some (vr 1000000), some (vr 0), some (vr 135), some (vr 145), some (vi (i : Int)), v5, v6], [vi 2, vi (i : Int), vr 1000000, vl ((fLshl (Int64.ofInt (X.2 (i + 1))) (Int32.ofInt 32)).toInt), vr 0])) (S' := MS I J cc ss) 6 rfl ?_
  refine ev_add (z := (i : Int) + 2) (hC _ _ rfl) (by omega) (by omega) (by omega) ?_
  show Ev X k_L_law (757, [some (vr 1000000), some (vr 0), some (vr 135), some (vr 145), some (vi (i : Int)), v5, v6], [vi ((i : Int) + 2), vr 1000000, vl ((fLshl (Int64.ofInt (X.2 (i + 1))) (Int32.ofInt 32)).toInt), vr 0]) (MS I J cc ss) _
  refine ev_xsN (j := i + 2) (hC _ _ rfl) rfl (by omega) (by omega) rfl ?_
  show Ev X k_L_law (758, [some (vr 1000000), some (vr 0), some (vr 135), some (vr 145), some (vi (i : Int)), v5, v6], [vi (X.2 (i + 2)), vl ((fLshl (Int64.ofInt (X.2 (i + 1))) (Int32.ofInt 32)).toInt), vr 0]) (MS I J cc ss) _
  refine ev_nL hC (fr' := (764, [some (vr 1000000), some (vr 0), some (vr 135), some (vr 145), some (vi (i : Int)), v5, v6], [vl (opL (· ||| ·) ((fLshl (Int64.ofInt (X.2 (i + 1))) (Int32.ofInt 32)).toInt) (opL (· &&& ·) (X.2 (i + 2)) 4294967295)), vr 0])) (S' := MS I J cc ss) 4 rfl ?_
  refine ev_cp (hC _ _ rfl) rfl rfl ⟨Nat.le_of_ble_eq_true rfl, Nat.le_of_ble_eq_true rfl⟩ (HC (opL (· ||| ·) ((fLshl (Int64.ofInt (X.2 (i + 1))) (Int32.ofInt 32)).toInt) (opL (· &&& ·) (X.2 (i + 2)) 4294967295))) (fun I1 J1 q1 => ?_)
  obtain ⟨rfl, h1⟩ := q1
  show Ev X k_L_law (767, [some (vr 1000000), some (vr 0), some (vr 135), some (vr 145), some (vi (i : Int)), v5, v6], [vi (f (opL (· ||| ·) ((fLshl (Int64.ofInt (X.2 (i + 1))) (Int32.ofInt 32)).toInt) (opL (· &&& ·) (X.2 (i + 2)) 4294967295)))]) (MS I1 J1 cc ss) _
  refine ev_nL hC (fr' := (772, [some (vr 1000000), some (vr 0), some (vr 135), some (vr 145), some (vi (i : Int)), v5, v6], [vi 1, vi (i : Int), vr 1000000, vr 135, vi (f (opL (· ||| ·) ((fLshl (Int64.ofInt (X.2 (i + 1))) (Int32.ofInt 32)).toInt) (opL (· &&& ·) (X.2 (i + 2)) 4294967295)))])) (S' := MS I1 J1 cc ss) 4 rfl ?_
  refine ev_add (z := (i : Int) + 1) (hC _ _ rfl) (by omega) (by omega) (by omega) ?_
  show Ev X k_L_law (773, [some (vr 1000000), some (vr 0), some (vr 135), some (vr 145), some (vi (i : Int)), v5, v6], [vi ((i : Int) + 1), vr 1000000, vr 135, vi (f (opL (· ||| ·) ((fLshl (Int64.ofInt (X.2 (i + 1))) (Int32.ofInt 32)).toInt) (opL (· &&& ·) (X.2 (i + 2)) 4294967295)))]) (MS I1 J1 cc ss) _
  refine ev_xsN (j := i + 1) (hC _ _ rfl) rfl (by omega) (by omega) rfl ?_
  show Ev X k_L_law (774, [some (vr 1000000), some (vr 0), some (vr 135), some (vr 145), some (vi (i : Int)), v5, v6], [vi (X.2 (i + 1)), vr 135, vi (f (opL (· ||| ·) ((fLshl (Int64.ofInt (X.2 (i + 1))) (Int32.ofInt 32)).toInt) (opL (· &&& ·) (X.2 (i + 2)) 4294967295)))]) (MS I1 J1 cc ss) _
  refine ev_nL hC (fr' := (782, [some (vr 1000000), some (vr 0), some (vr 135), some (vr 145), some (vi (i : Int)), v5, v6], [vi 2, vi (i : Int), vr 1000000, vl ((fLshl (Int64.ofInt (X.2 (i + 1))) (Int32.ofInt 32)).toInt), vr 135, vi (f (opL (· ||| ·) ((fLshl (Int64.ofInt (X.2 (i + 1))) (Int32.ofInt 32)).toInt) (opL (· &&& ·) (X.2 (i + 2)) 4294967295)))])) (S' := MS I1 J1 cc ss) 6 rfl ?_
  refine ev_add (z := (i : Int) + 2) (hC _ _ rfl) (by omega) (by omega) (by omega) ?_
  show Ev X k_L_law (783, [some (vr 1000000), some (vr 0), some (vr 135), some (vr 145), some (vi (i : Int)), v5, v6], [vi ((i : Int) + 2), vr 1000000, vl ((fLshl (Int64.ofInt (X.2 (i + 1))) (Int32.ofInt 32)).toInt), vr 135, vi (f (opL (· ||| ·) ((fLshl (Int64.ofInt (X.2 (i + 1))) (Int32.ofInt 32)).toInt) (opL (· &&& ·) (X.2 (i + 2)) 4294967295)))]) (MS I1 J1 cc ss) _
  refine ev_xsN (j := i + 2) (hC _ _ rfl) rfl (by omega) (by omega) rfl ?_
  show Ev X k_L_law (784, [some (vr 1000000), some (vr 0), some (vr 135), some (vr 145), some (vi (i : Int)), v5, v6], [vi (X.2 (i + 2)), vl ((fLshl (Int64.ofInt (X.2 (i + 1))) (Int32.ofInt 32)).toInt), vr 135, vi (f (opL (· ||| ·) ((fLshl (Int64.ofInt (X.2 (i + 1))) (Int32.ofInt 32)).toInt) (opL (· &&& ·) (X.2 (i + 2)) 4294967295)))]) (MS I1 J1 cc ss) _
  refine ev_nL hC (fr' := (790, [some (vr 1000000), some (vr 0), some (vr 135), some (vr 145), some (vi (i : Int)), v5, v6], [vl (opL (· ||| ·) ((fLshl (Int64.ofInt (X.2 (i + 1))) (Int32.ofInt 32)).toInt) (opL (· &&& ·) (X.2 (i + 2)) 4294967295)), vr 135, vi (f (opL (· ||| ·) ((fLshl (Int64.ofInt (X.2 (i + 1))) (Int32.ofInt 32)).toInt) (opL (· &&& ·) (X.2 (i + 2)) 4294967295)))])) (S' := MS I1 J1 cc ss) 4 rfl ?_
  refine ev_cp (hC _ _ rfl) rfl rfl ⟨Nat.le_of_ble_eq_true rfl, Nat.le_of_ble_eq_true rfl⟩ (HR (opL (· ||| ·) ((fLshl (Int64.ofInt (X.2 (i + 1))) (Int32.ofInt 32)).toInt) (opL (· &&& ·) (X.2 (i + 2)) 4294967295)) _ h1) (fun I2 J2 q2 => ?_)
  obtain ⟨rfl, h2⟩ := q2
  show Ev X k_L_law (793, [some (vr 1000000), some (vr 0), some (vr 135), some (vr 145), some (vi (i : Int)), v5, v6], [vi (f (opL (· ||| ·) ((fLshl (Int64.ofInt (X.2 (i + 1))) (Int32.ofInt 32)).toInt) (opL (· &&& ·) (X.2 (i + 2)) 4294967295))), vi (f (opL (· ||| ·) ((fLshl (Int64.ofInt (X.2 (i + 1))) (Int32.ofInt 32)).toInt) (opL (· &&& ·) (X.2 (i + 2)) 4294967295)))]) (MS I2 J2 cc ss) _
  refine ev_ic (c := .eq) (off := 1879) (hC _ _ rfl) (by decide) (fun (g1 : (f (opL (· ||| ·) ((fLshl (Int64.ofInt (X.2 (i + 1))) (Int32.ofInt 32)).toInt) (opL (· &&& ·) (X.2 (i + 2)) 4294967295))) = (f (opL (· ||| ·) ((fLshl (Int64.ofInt (X.2 (i + 1))) (Int32.ofInt 32)).toInt) (opL (· &&& ·) (X.2 (i + 2)) 4294967295)))) => ?_) (fun (g1 : ¬ ((f (opL (· ||| ·) ((fLshl (Int64.ofInt (X.2 (i + 1))) (Int32.ofInt 32)).toInt) (opL (· &&& ·) (X.2 (i + 2)) 4294967295))) = (f (opL (· ||| ·) ((fLshl (Int64.ofInt (X.2 (i + 1))) (Int32.ofInt 32)).toInt) (opL (· &&& ·) (X.2 (i + 2)) 4294967295))))) => False.elim (g1 rfl))
  show Ev X k_L_law (2672, [some (vr 1000000), some (vr 0), some (vr 135), some (vr 145), some (vi (i : Int)), v5, v6], []) (MS I2 J2 cc ss) _
  obtain ⟨g, hs9, m, tx, fl, n, e, D, h⟩ := hI
  exact K _ _ 0 _ _ (Nat.zero_le _) ⟨g, hs9, m, tx, fl, n, e, D, h.qn h1 h2⟩
set_option maxRecDepth 100000 in
noncomputable def cl_findIcon : List (Nat × AI) := [(1290, .aload_n 1, 1, (0, 0, 0)), (1291, .aload_n 0, 1, (0, 0, 0)), (1292, .iload 4, 2, (0, 0, 0)), (1294, .iconst 1, 1, (0, 0, 0)), (1295, .iadd, 1, (0, 0, 0)), (1296, .iaload, 1, (0, 0, 0)), (1297, .i2l, 1, (0, 0, 0)), (1298, .bipush 32, 2, (0, 0, 0)), (1300, .lshl, 1, (0, 0, 0)), (1301, .aload_n 0, 1, (0, 0, 0)), (1302, .iload 4, 2, (0, 0, 0)), (1304, .iconst 2, 1, (0, 0, 0)), (1305, .iadd, 1, (0, 0, 0)), (1306, .iaload, 1, (0, 0, 0)), (1307, .i2l, 1, (0, 0, 0)), (1308, .ldc2_w 163, 3, (0, 4294967295, 0)), (1311, .land, 1, (0, 0, 0)), (1312, .lor, 1, (0, 0, 0)), (1313, .invokevirtual 190, 3, (1, 17, 1)), (1316, .aload_n 2, 1, (0, 0, 0)), (1317, .aload_n 0, 1, (0, 0, 0)), (1318, .iload 4, 2, (0, 0, 0)), (1320, .iconst 1, 1, (0, 0, 0)), (1321, .iadd, 1, (0, 0, 0)), (1322, .iaload, 1, (0, 0, 0)), (1323, .i2l, 1, (0, 0, 0)), (1324, .bipush 32, 2, (0, 0, 0)), (1326, .lshl, 1, (0, 0, 0)), (1327, .aload_n 0, 1, (0, 0, 0)), (1328, .iload 4, 2, (0, 0, 0)), (1330, .iconst 2, 1, (0, 0, 0)), (1331, .iadd, 1, (0, 0, 0)), (1332, .iaload, 1, (0, 0, 0)), (1333, .i2l, 1, (0, 0, 0)), (1334, .ldc2_w 163, 3, (0, 4294967295, 0)), (1337, .land, 1, (0, 0, 0)), (1338, .lor, 1, (0, 0, 0)), (1339, .invokevirtual 193, 3, (1, 122, 1)), (1342, .if_icmp .eq 1330, 3, (0, 0, 0)), (1345, .iconst 0, 1, (0, 0, 0)), (1346, .ireturn, 1, (1, 0, 0))]
set_option maxRecDepth 100000 in
theorem ck_findIcon : lkS cl_findIcon k_L_law := lkS_of (by decide +kernel)
theorem lw_findIcon (X : AX) (I J : Nat → Nat → Int) (cc ss : Nat) {Q : (Option AV ⊕ Nat) → AS → Prop} (i : Nat) (hi : i + 6 ≤ X.1) (h72 : X.1 ≤ 3072) (v5 v6 : Option AV) (f : Int → Int) (hI : INV I J) (HC : ∀ x, Ev X k_X8_findIcon (0, [some (vr 0), some (vl x), none], []) (MS I J cc ss) (PV cc ss (some (vi (f x))) (fun I' J' => J' = J ∧ scrC I I'))) (HR : ∀ x I1, scrC I I1 → Ev X k_X9_findIcon (0, [some (vr 135), some (vl x), none], []) (MS I1 J cc ss) (PV cc ss (some (vi (f x))) (fun I' J' => J' = J ∧ scrM (up2 I1 135 4 0) I'))) (K : ∀ I' J' c v5 v6, c ≤ 1 → INV I' J' → Ev X k_L_law (2672, [some (vr 1000000), some (vr 0), some (vr 135), some (vr 145), some (vi (i : Int)), v5, v6], []) (MS I' J' (cc + c) (ss + 6 * c)) Q) : Ev X k_L_law (1290, [some (vr 1000000), some (vr 0), some (vr 135), some (vr 145), some (vi (i : Int)), v5, v6], []) (MS I J cc ss) (Q) := by
  have hC := ck_findIcon
  refine ev_nL hC (fr' := (1295, [some (vr 1000000), some (vr 0), some (vr 135), some (vr 145), some (vi (i : Int)), v5, v6], [vi 1, vi (i : Int), vr 1000000, vr 0])) (S' := MS I J cc ss) 4 rfl ?_
  refine ev_add (z := (i : Int) + 1) (hC _ _ rfl) (by omega) (by omega) (by omega) ?_
  show Ev X k_L_law (1296, [some (vr 1000000), some (vr 0), some (vr 135), some (vr 145), some (vi (i : Int)), v5, v6], [vi ((i : Int) + 1), vr 1000000, vr 0]) (MS I J cc ss) _
  refine ev_xsN (j := i + 1) (hC _ _ rfl) rfl (by omega) (by omega) rfl ?_
  show Ev X k_L_law (1297, [some (vr 1000000), some (vr 0), some (vr 135), some (vr 145), some (vi (i : Int)), v5, v6], [vi (X.2 (i + 1)), vr 0]) (MS I J cc ss) _
  refine ev_nL hC (fr' := (1305, [some (vr 1000000), some (vr 0), some (vr 135), some (vr 145), some (vi (i : Int)), v5, v6], [vi 2, vi (i : Int), vr 1000000, vl ((fLshl (Int64.ofInt (X.2 (i + 1))) (Int32.ofInt 32)).toInt), vr 0])) (S' := MS I J cc ss) 6 rfl ?_
  refine ev_add (z := (i : Int) + 2) (hC _ _ rfl) (by omega) (by omega) (by omega) ?_
  show Ev X k_L_law (1306, [some (vr 1000000), some (vr 0), some (vr 135), some (vr 145), some (vi (i : Int)), v5, v6], [vi ((i : Int) + 2), vr 1000000, vl ((fLshl (Int64.ofInt (X.2 (i + 1))) (Int32.ofInt 32)).toInt), vr 0]) (MS I J cc ss) _
  refine ev_xsN (j := i + 2) (hC _ _ rfl) rfl (by omega) (by omega) rfl ?_
  show Ev X k_L_law (1307, [some (vr 1000000), some (vr 0), some (vr 135), some (vr 145), some (vi (i : Int)), v5, v6], [vi (X.2 (i + 2)), vl ((fLshl (Int64.ofInt (X.2 (i + 1))) (Int32.ofInt 32)).toInt), vr 0]) (MS I J cc ss) _
  refine ev_nL hC (fr' := (1313, [some (vr 1000000), some (vr 0), some (vr 135), some (vr 145), some (vi (i : Int)), v5, v6], [vl (opL (· ||| ·) ((fLshl (Int64.ofInt (X.2 (i + 1))) (Int32.ofInt 32)).toInt) (opL (· &&& ·) (X.2 (i + 2)) 4294967295)), vr 0])) (S' := MS I J cc ss) 4 rfl ?_
  refine ev_cp (hC _ _ rfl) rfl rfl ⟨Nat.le_of_ble_eq_true rfl, Nat.le_of_ble_eq_true rfl⟩ (HC (opL (· ||| ·) ((fLshl (Int64.ofInt (X.2 (i + 1))) (Int32.ofInt 32)).toInt) (opL (· &&& ·) (X.2 (i + 2)) 4294967295))) (fun I1 J1 q1 => ?_)
  obtain ⟨rfl, h1⟩ := q1
  show Ev X k_L_law (1316, [some (vr 1000000), some (vr 0), some (vr 135), some (vr 145), some (vi (i : Int)), v5, v6], [vi (f (opL (· ||| ·) ((fLshl (Int64.ofInt (X.2 (i + 1))) (Int32.ofInt 32)).toInt) (opL (· &&& ·) (X.2 (i + 2)) 4294967295)))]) (MS I1 J1 cc ss) _
  refine ev_nL hC (fr' := (1321, [some (vr 1000000), some (vr 0), some (vr 135), some (vr 145), some (vi (i : Int)), v5, v6], [vi 1, vi (i : Int), vr 1000000, vr 135, vi (f (opL (· ||| ·) ((fLshl (Int64.ofInt (X.2 (i + 1))) (Int32.ofInt 32)).toInt) (opL (· &&& ·) (X.2 (i + 2)) 4294967295)))])) (S' := MS I1 J1 cc ss) 4 rfl ?_
  refine ev_add (z := (i : Int) + 1) (hC _ _ rfl) (by omega) (by omega) (by omega) ?_
  show Ev X k_L_law (1322, [some (vr 1000000), some (vr 0), some (vr 135), some (vr 145), some (vi (i : Int)), v5, v6], [vi ((i : Int) + 1), vr 1000000, vr 135, vi (f (opL (· ||| ·) ((fLshl (Int64.ofInt (X.2 (i + 1))) (Int32.ofInt 32)).toInt) (opL (· &&& ·) (X.2 (i + 2)) 4294967295)))]) (MS I1 J1 cc ss) _
  refine ev_xsN (j := i + 1) (hC _ _ rfl) rfl (by omega) (by omega) rfl ?_
  show Ev X k_L_law (1323, [some (vr 1000000), some (vr 0), some (vr 135), some (vr 145), some (vi (i : Int)), v5, v6], [vi (X.2 (i + 1)), vr 135, vi (f (opL (· ||| ·) ((fLshl (Int64.ofInt (X.2 (i + 1))) (Int32.ofInt 32)).toInt) (opL (· &&& ·) (X.2 (i + 2)) 4294967295)))]) (MS I1 J1 cc ss) _
  refine ev_nL hC (fr' := (1331, [some (vr 1000000), some (vr 0), some (vr 135), some (vr 145), some (vi (i : Int)), v5, v6], [vi 2, vi (i : Int), vr 1000000, vl ((fLshl (Int64.ofInt (X.2 (i + 1))) (Int32.ofInt 32)).toInt), vr 135, vi (f (opL (· ||| ·) ((fLshl (Int64.ofInt (X.2 (i + 1))) (Int32.ofInt 32)).toInt) (opL (· &&& ·) (X.2 (i + 2)) 4294967295)))])) (S' := MS I1 J1 cc ss) 6 rfl ?_
  refine ev_add (z := (i : Int) + 2) (hC _ _ rfl) (by omega) (by omega) (by omega) ?_
  show Ev X k_L_law (1332, [some (vr 1000000), some (vr 0), some (vr 135), some (vr 145), some (vi (i : Int)), v5, v6], [vi ((i : Int) + 2), vr 1000000, vl ((fLshl (Int64.ofInt (X.2 (i + 1))) (Int32.ofInt 32)).toInt), vr 135, vi (f (opL (· ||| ·) ((fLshl (Int64.ofInt (X.2 (i + 1))) (Int32.ofInt 32)).toInt) (opL (· &&& ·) (X.2 (i + 2)) 4294967295)))]) (MS I1 J1 cc ss) _
  refine ev_xsN (j := i + 2) (hC _ _ rfl) rfl (by omega) (by omega) rfl ?_
  show Ev X k_L_law (1333, [some (vr 1000000), some (vr 0), some (vr 135), some (vr 145), some (vi (i : Int)), v5, v6], [vi (X.2 (i + 2)), vl ((fLshl (Int64.ofInt (X.2 (i + 1))) (Int32.ofInt 32)).toInt), vr 135, vi (f (opL (· ||| ·) ((fLshl (Int64.ofInt (X.2 (i + 1))) (Int32.ofInt 32)).toInt) (opL (· &&& ·) (X.2 (i + 2)) 4294967295)))]) (MS I1 J1 cc ss) _
  refine ev_nL hC (fr' := (1339, [some (vr 1000000), some (vr 0), some (vr 135), some (vr 145), some (vi (i : Int)), v5, v6], [vl (opL (· ||| ·) ((fLshl (Int64.ofInt (X.2 (i + 1))) (Int32.ofInt 32)).toInt) (opL (· &&& ·) (X.2 (i + 2)) 4294967295)), vr 135, vi (f (opL (· ||| ·) ((fLshl (Int64.ofInt (X.2 (i + 1))) (Int32.ofInt 32)).toInt) (opL (· &&& ·) (X.2 (i + 2)) 4294967295)))])) (S' := MS I1 J1 cc ss) 4 rfl ?_
  refine ev_cp (hC _ _ rfl) rfl rfl ⟨Nat.le_of_ble_eq_true rfl, Nat.le_of_ble_eq_true rfl⟩ (HR (opL (· ||| ·) ((fLshl (Int64.ofInt (X.2 (i + 1))) (Int32.ofInt 32)).toInt) (opL (· &&& ·) (X.2 (i + 2)) 4294967295)) _ h1) (fun I2 J2 q2 => ?_)
  obtain ⟨rfl, h2⟩ := q2
  show Ev X k_L_law (1342, [some (vr 1000000), some (vr 0), some (vr 135), some (vr 145), some (vi (i : Int)), v5, v6], [vi (f (opL (· ||| ·) ((fLshl (Int64.ofInt (X.2 (i + 1))) (Int32.ofInt 32)).toInt) (opL (· &&& ·) (X.2 (i + 2)) 4294967295))), vi (f (opL (· ||| ·) ((fLshl (Int64.ofInt (X.2 (i + 1))) (Int32.ofInt 32)).toInt) (opL (· &&& ·) (X.2 (i + 2)) 4294967295)))]) (MS I2 J2 cc ss) _
  refine ev_ic (c := .eq) (off := 1330) (hC _ _ rfl) (by decide) (fun (g1 : (f (opL (· ||| ·) ((fLshl (Int64.ofInt (X.2 (i + 1))) (Int32.ofInt 32)).toInt) (opL (· &&& ·) (X.2 (i + 2)) 4294967295))) = (f (opL (· ||| ·) ((fLshl (Int64.ofInt (X.2 (i + 1))) (Int32.ofInt 32)).toInt) (opL (· &&& ·) (X.2 (i + 2)) 4294967295)))) => ?_) (fun (g1 : ¬ ((f (opL (· ||| ·) ((fLshl (Int64.ofInt (X.2 (i + 1))) (Int32.ofInt 32)).toInt) (opL (· &&& ·) (X.2 (i + 2)) 4294967295))) = (f (opL (· ||| ·) ((fLshl (Int64.ofInt (X.2 (i + 1))) (Int32.ofInt 32)).toInt) (opL (· &&& ·) (X.2 (i + 2)) 4294967295))))) => False.elim (g1 rfl))
  show Ev X k_L_law (2672, [some (vr 1000000), some (vr 0), some (vr 135), some (vr 145), some (vi (i : Int)), v5, v6], []) (MS I2 J2 cc ss) _
  obtain ⟨g, hs9, m, tx, fl, n, e, D, h⟩ := hI
  exact K _ _ 0 _ _ (Nat.zero_le _) ⟨g, hs9, m, tx, fl, n, e, D, h.qn h1 h2⟩
set_option maxRecDepth 100000 in
noncomputable def cl_errorPosition : List (Nat × AI) := [(356, .aload_n 1, 1, (0, 0, 0)), (357, .invokevirtual 140, 3, (1, 3, 0)), (360, .aload_n 2, 1, (0, 0, 0)), (361, .invokevirtual 143, 3, (1, 83, 0)), (364, .if_icmp .eq 2308, 3, (0, 0, 0)), (367, .iconst 0, 1, (0, 0, 0)), (368, .ireturn, 1, (1, 0, 0))]
set_option maxRecDepth 100000 in
theorem ck_errorPosition : lkS cl_errorPosition k_L_law := lkS_of (by decide +kernel)
theorem lw_errorPosition (X : AX) (I J : Nat → Nat → Int) (cc ss : Nat) {Q : (Option AV ⊕ Nat) → AS → Prop} (i : Nat) (hi : i + 6 ≤ X.1) (h72 : X.1 ≤ 3072) (v5 v6 : Option AV) (hI : INV I J) (K : ∀ I' J' c v5 v6, c ≤ 1 → INV I' J' → Ev X k_L_law (2672, [some (vr 1000000), some (vr 0), some (vr 135), some (vr 145), some (vi (i : Int)), v5, v6], []) (MS I' J' (cc + c) (ss + 6 * c)) Q) : Ev X k_L_law (356, [some (vr 1000000), some (vr 0), some (vr 135), some (vr 145), some (vi (i : Int)), v5, v6], []) (MS I J cc ss) (Q) := by
  have hC := ck_errorPosition
  obtain ⟨g, hs9, m, tx, fl, n, e, D, h⟩ := hI
  refine ev_nL hC (fr' := (357, [some (vr 1000000), some (vr 0), some (vr 135), some (vr 145), some (vi (i : Int)), v5, v6], [vr 0])) (S' := MS I J cc ss) 1 rfl ?_
  refine ev_cv (hC _ _ rfl) rfl rfl ⟨Nat.le_of_ble_eq_true rfl, Nat.le_of_ble_eq_true rfl⟩ (pb_errorPosition X _ _ _ _) ?_
  show Ev X k_L_law (360, [some (vr 1000000), some (vr 0), some (vr 135), some (vr 145), some (vi (i : Int)), v5, v6], [vi (I 0 7)]) (MS I J cc ss) _
  refine ev_nL hC (fr' := (361, [some (vr 1000000), some (vr 0), some (vr 135), some (vr 145), some (vi (i : Int)), v5, v6], [vr 135, vi (I 0 7)])) (S' := MS I J cc ss) 1 rfl ?_
  refine ev_cv (hC _ _ rfl) rfl rfl ⟨Nat.le_of_ble_eq_true rfl, Nat.le_of_ble_eq_true rfl⟩ (rb_errorPosition X _ _ _ _) ?_
  show Ev X k_L_law (364, [some (vr 1000000), some (vr 0), some (vr 135), some (vr 145), some (vi (i : Int)), v5, v6], [vi (I 135 13), vi (I 0 7)]) (MS (up2 I 135 4 0) J cc ss) _
  refine ev_ic (c := .eq) (off := 2308) (hC _ _ rfl) (by decide) (fun (g1 : (I 0 7) = (I 135 13)) => ?_) (fun (g1 : ¬ ((I 0 7) = (I 135 13))) => False.elim (g1 h.h9))
  show Ev X k_L_law (2672, [some (vr 1000000), some (vr 0), some (vr 135), some (vr 145), some (vi (i : Int)), v5, v6], []) (MS (up2 I 135 4 0) J cc ss) _
  exact K _ _ 0 _ _ (Nat.zero_le _) ⟨g, hs9, m, tx, fl, n, e, D, h.th 0⟩
