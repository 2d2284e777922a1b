/-! BOTH SIDES OF A CHANGE (printed by gen/g98m.py) -/
theorem tw_setExtra (X : AX) (I J : Nat → Nat → Int) (cc ss : Nat) (a1 a2 : Int) (hI : INV I J) : Two X k_L_setExtra k_X9_setExtra (0, [some (vr 0), some (vi a1), some (vi a2), some (vr 145), none], []) (0, [some (vr 135), some (vi a1), some (vi a2), none], []) (fun _ => True) I J cc ss := by
  have hI9 := hI
  obtain ⟨g, hs, m, tx, fl, n9, e9, D, h⟩ := hI
  have hw1 := h.hw.1
  have hw2 := h.hw.2.1
  have hw3 := h.hw.2.2
  have hw4 := hw1.1
  have hw5 := hw1.2.1
  have hw6 := hw2.1
  have hw7 := hw2.2.1
  have hw8 := hw3.1
  have hw9 := hw3.2.1
  by_cases g1 : 0 ≤ a1 ∧ a1 < g 0
  rotate_left
  · exact two_x 1 (by decide) (wx_setExtra_2 X _ _ _ _ _ _ (pb_setExtra_x X _ _ _ _ _ _ h.hR.1 h.hR.2.1 h.hR.2.2 h.hw.1 h.hw.2.1 h.hw.2.2 g1)) (rb_setExtra_x X _ _ _ _ _ _ h.hg h.hw.1 h.hw.2.1 h.hw.2.2 g1) hI9
  obtain ⟨k, rfl⟩ : ∃ k : Nat, a1 = (k : Int) := ⟨a1.toNat, by omega⟩
  by_cases g2 : -2 ≤ a2 ∧ a2 ≤ 2
  rotate_left
  · exact two_x 2 (by decide) (wx_setExtra_1 X _ _ _ _ _ _ (pb_setExtra_y X _ _ _ _ _ _ h.hR.1 h.hR.2.1 h.hR.2.2 h.hw.1 h.hw.2.1 h.hw.2.2 g1.2 g2)) (rb_setExtra_y X _ _ _ _ _ _ h.hg h.hw.1 h.hw.2.1 h.hw.2.2 g1.2 g2) hI9
  exact two_c h trivial (h.hw.ext g1.2 g2) (wl_setExtra X _ _ _ _ _ _ ((pb_setExtra X _ _ _ _ k a2 h.hH h.hR h.hw g1.2 g2).mono (fun _ _ q => q.pz))) (fun I1 J1 e1 e2 e3 => rb_setExtra X _ _ _ _ k a2 e1 h.hw.1 h.hw.2.1 h.hw.2.2 e2 h.h8 e3 g1.2 g2)
theorem tw_removeSize (X : AX) (I J : Nat → Nat → Int) (cc ss : Nat) (a1 : Int) (hI : INV I J) : Two X k_L_removeSize k_X9_removeSize (0, [some (vr 0), some (vi a1), some (vr 145), none], []) (0, [some (vr 135), some (vi a1), none, none], []) (fun _ => True) I J cc ss := by
  have hI9 := hI
  obtain ⟨g, hs, m, tx, fl, n9, e9, D, h⟩ := hI
  have hw1 := h.hw.1
  have hw2 := h.hw.2.1
  have hw3 := h.hw.2.2
  have hw4 := hw1.1
  have hw5 := hw1.2.1
  have hw6 := hw2.1
  have hw7 := hw2.2.1
  have hw8 := hw3.1
  have hw9 := hw3.2.1
  by_cases g1 : 0 ≤ a1 ∧ a1 < g 0
  rotate_left
  · exact two_x 1 (by decide) (wx_removeSize_2 X _ _ _ _ _ (pb_removeSize_x X _ _ _ _ _ h.hR.1 h.hR.2.1 h.hR.2.2 h.hw.1 h.hw.2.1 h.hw.2.2 g1)) (rb_removeSize_x X _ _ _ _ _ h.hg h.hw.1 h.hw.2.1 h.hw.2.2 g1) hI9
  obtain ⟨k, rfl⟩ : ∃ k : Nat, a1 = (k : Int) := ⟨a1.toNat, by omega⟩
  obtain ⟨n, hn⟩ : ∃ n : Nat, g 0 = (n : Int) := ⟨(g 0).toNat, by omega⟩
  exact two_c h trivial (h.hw.rem hn (by omega)) (wl_removeSize X _ _ _ _ _ ((pb_removeSize X _ _ _ _ k n h.hH h.hR h.hw hn (by omega)).mono (fun _ _ q => q.pz))) (fun I1 J1 e1 e2 e3 => rb_removeSize X _ _ _ _ k n e1 h.hw.1 h.hw.2.1 h.hw.2.2 e2 h.h8 e3 hn (by omega))
theorem tw_setShape (X : AX) (I J : Nat → Nat → Int) (cc ss : Nat) (a1 a2 a3 a4 : Int) (hI : INV I J) : Two X k_L_setShape k_X9_setShape (0, [some (vr 0), some (vi a1), some (vi a2), some (vi a3), some (vi a4), some (vr 145), none], []) (0, [some (vr 135), some (vi a1), some (vi a2), some (vi a3), some (vi a4), none], []) (fun _ => True) I J cc ss := by
  have hI9 := hI
  obtain ⟨g, hs, m, tx, fl, n9, e9, D, h⟩ := hI
  have hw1 := h.hw.1
  have hw2 := h.hw.2.1
  have hw3 := h.hw.2.2
  have hw4 := hw1.1
  have hw5 := hw1.2.1
  have hw6 := hw2.1
  have hw7 := hw2.2.1
  have hw8 := hw3.1
  have hw9 := hw3.2.1
  by_cases g1 : 0 ≤ a1 ∧ a1 < g 11
  rotate_left
  · exact two_x 1 (by decide) (wx_setShape_2 X _ _ _ _ _ _ _ _ (pb_setShape_x X _ _ _ _ _ _ _ _ h.hR.1 h.hR.2.1 h.hR.2.2 h.hw.1 h.hw.2.1 h.hw.2.2 (fun q => g1 ⟨q.1, q.2.1⟩))) (rb_setShape_x X _ _ _ _ _ _ _ _ h.hg h.hw.1 h.hw.2.1 h.hw.2.2 g1) hI9
  obtain ⟨k, rfl⟩ : ∃ k : Nat, a1 = (k : Int) := ⟨a1.toNat, by omega⟩
  by_cases g2 : 0 ≤ a2 ∧ a2 < g (37 * k + 12)
  rotate_left
  · exact two_x 1 (by decide) (wx_setShape_2 X _ _ _ _ _ _ _ _ (pb_setShape_x X _ _ _ _ _ _ _ _ h.hR.1 h.hR.2.1 h.hR.2.2 h.hw.1 h.hw.2.1 h.hw.2.2 (by intro q; have q2 := q.2.2.2; rw [Int.toNat_natCast] at q2; omega))) (rb_setShape_y X _ _ _ _ _ _ _ _ h.hg h.hw.1 h.hw.2.1 h.hw.2.2 g1.2 g2) hI9
  obtain ⟨l, rfl⟩ : ∃ k : Nat, a2 = (k : Int) := ⟨a2.toNat, by omega⟩
  by_cases g3 : 1 ≤ a3 ∧ a3 ≤ 5
  rotate_left
  · exact two_x 2 (by decide) (wx_setShape_1 X _ _ _ _ _ _ _ _ (pb_setShape_y X _ _ _ _ _ _ _ _ h.hR.1 h.hR.2.1 h.hR.2.2 h.hw.1 h.hw.2.1 h.hw.2.2 g1.2 g2.2 g3)) (rb_setShape_z X _ _ _ _ _ _ _ _ h.hg h.hw.1 h.hw.2.1 h.hw.2.2 g1.2 g2.2 (fun q => g3 q.1)) hI9
  obtain ⟨w, rfl⟩ : ∃ k : Nat, a3 = (k : Int) := ⟨a3.toNat, by omega⟩
  by_cases g4 : fitP (g (37 * k + 6 * l + 13)) (w : Int) a4
  rotate_left
  · exact two_x 2 (by decide) (wx_setShape_1 X _ _ _ _ _ _ _ _ (pb_setShape_z X _ _ _ _ _ _ _ _ h.hR.1 h.hR.2.1 h.hR.2.2 h.hw.1 h.hw.2.1 h.hw.2.2 g1.2 g2.2 (by omega) g4)) (rb_setShape_z X _ _ _ _ _ _ _ _ h.hg h.hw.1 h.hw.2.1 h.hw.2.2 g1.2 g2.2 (fun q => g4 q.2)) hI9
  exact two_c h trivial (h.hw.set g1.2 g2.2 (by omega) g4) (wl_setShape X _ _ _ _ _ _ _ _ ((pb_setShape X _ _ _ _ k l w a4 h.hH h.hR h.hw g1.2 g2.2 (by omega) g4).mono (fun _ _ q => q.pz))) (fun I1 J1 e1 e2 e3 => rb_setShape X _ _ _ _ k l w a4 e1 h.hw.1 h.hw.2.1 h.hw.2.2 e2 h.h8 e3 g1.2 g2.2 (by omega) g4)
theorem tw_moveShape (X : AX) (I J : Nat → Nat → Int) (cc ss : Nat) (a1 a2 a3 a4 : Int) (hI : INV I J) : Two X k_L_moveShape k_X9_moveShape (0, [some (vr 0), some (vi a1), some (vi a2), some (vi a3), some (vi a4), some (vr 145), none], []) (0, [some (vr 135), some (vi a1), some (vi a2), some (vi a3), some (vi a4)], []) (fun _ => True) I J cc ss := by
  have hI9 := hI
  obtain ⟨g, hs, m, tx, fl, n9, e9, D, h⟩ := hI
  have hw1 := h.hw.1
  have hw2 := h.hw.2.1
  have hw3 := h.hw.2.2
  have hw4 := hw1.1
  have hw5 := hw1.2.1
  have hw6 := hw2.1
  have hw7 := hw2.2.1
  have hw8 := hw3.1
  have hw9 := hw3.2.1
  by_cases g1 : 0 ≤ a1 ∧ a1 < g 11
  rotate_left
  · exact two_x 1 (by decide) (wx_moveShape_2 X _ _ _ _ _ _ _ _ (pb_moveShape_x X _ _ _ _ _ _ _ _ h.hR.1 h.hR.2.1 h.hR.2.2 h.hw.1 h.hw.2.1 h.hw.2.2 (fun q => g1 ⟨q.1, q.2.1⟩))) (rb_moveShape_x X _ _ _ _ _ _ _ _ h.hg h.hw.1 h.hw.2.1 h.hw.2.2 g1) hI9
  obtain ⟨k, rfl⟩ : ∃ k : Nat, a1 = (k : Int) := ⟨a1.toNat, by omega⟩
  by_cases g2 : 0 ≤ a2 ∧ a2 < g (37 * k + 12)
  rotate_left
  · exact two_x 1 (by decide) (wx_moveShape_2 X _ _ _ _ _ _ _ _ (pb_moveShape_x X _ _ _ _ _ _ _ _ h.hR.1 h.hR.2.1 h.hR.2.2 h.hw.1 h.hw.2.1 h.hw.2.2 (by intro q; have q2 := q.2.2.2; rw [Int.toNat_natCast] at q2; omega))) (rb_moveShape_y X _ _ _ _ _ _ _ _ h.hg h.hw.1 h.hw.2.1 h.hw.2.2 g1.2 g2) hI9
  obtain ⟨l, rfl⟩ : ∃ k : Nat, a2 = (k : Int) := ⟨a2.toNat, by omega⟩
  by_cases g3 : (-48 ≤ a3 ∧ a3 ≤ 48) ∧ (-48 ≤ a4 ∧ a4 ≤ 48)
  rotate_left
  · exact two_x 2 (by decide) (wx_moveShape_1 X _ _ _ _ _ _ _ _ (pb_moveShape_y X _ _ _ _ _ _ _ _ h.hR.1 h.hR.2.1 h.hR.2.2 h.hw.1 h.hw.2.1 h.hw.2.2 g1.2 g2.2 g3)) (rb_moveShape_z X _ _ _ _ _ _ _ _ h.hg h.hw.1 h.hw.2.1 h.hw.2.2 g1.2 g2.2 (fun q => g3 ⟨q.1, q.2.1⟩)) hI9
  by_cases g4 : canP g k l a3 a4
  rotate_left
  · exact two_x 2 (by decide) (wx_moveShape_1 X _ _ _ _ _ _ _ _ (pb_moveShape_z X _ _ _ _ _ _ _ _ h.hR.1 h.hR.2.1 h.hR.2.2 h.hw.1 h.hw.2.1 h.hw.2.2 g1.2 g2.2 g3 g4)) (rb_moveShape_z X _ _ _ _ _ _ _ _ h.hg h.hw.1 h.hw.2.1 h.hw.2.2 g1.2 g2.2 (fun q => g4 q.2.2)) hI9
  exact two_c h trivial (h.hw.mv g1.2 g2.2 g2.2 g4) (wl_moveShape X _ _ _ _ _ _ _ _ ((pb_moveShape X _ _ _ _ k l a3 a4 h.hH h.hR h.hw g1.2 g2.2 g3 g4).mono (fun _ _ q => q.pz))) (fun I1 J1 e1 e2 e3 => rb_moveShape X _ _ _ _ k l a3 a4 e1 h.hw.1 h.hw.2.1 h.hw.2.2 e2 h.h8 e3 g1.2 g2.2 g3 g4)
theorem tw_copyShape (X : AX) (I J : Nat → Nat → Int) (cc ss : Nat) (a1 a2 a3 a4 : Int) (hI : INV I J) : Two X k_L_copyShape k_X9_copyShape (0, [some (vr 0), some (vi a1), some (vi a2), some (vi a3), some (vi a4), some (vr 145), none], []) (0, [some (vr 135), some (vi a1), some (vi a2), some (vi a3), some (vi a4), none, none], []) (fun _ => True) I J cc ss := by
  have hI9 := hI
  obtain ⟨g, hs, m, tx, fl, n9, e9, D, h⟩ := hI
  have hw1 := h.hw.1
  have hw2 := h.hw.2.1
  have hw3 := h.hw.2.2
  have hw4 := hw1.1
  have hw5 := hw1.2.1
  have hw6 := hw2.1
  have hw7 := hw2.2.1
  have hw8 := hw3.1
  have hw9 := hw3.2.1
  by_cases g1 : 0 ≤ a1 ∧ a1 < g 11
  rotate_left
  · exact two_x 1 (by decide) (wx_copyShape_2 X _ _ _ _ _ _ _ _ (pb_copyShape_x X _ _ _ _ _ _ _ _ h.hR.1 h.hR.2.1 h.hR.2.2 h.hw.1 h.hw.2.1 h.hw.2.2 (fun q => g1 ⟨q.1, q.2.1⟩))) (rb_copyShape_x X _ _ _ _ _ _ _ _ h.hg h.hw.1 h.hw.2.1 h.hw.2.2 g1) hI9
  obtain ⟨k, rfl⟩ : ∃ k : Nat, a1 = (k : Int) := ⟨a1.toNat, by omega⟩
  by_cases g2 : 0 ≤ a2 ∧ a2 < g (37 * k + 12)
  rotate_left
  · exact two_x 1 (by decide) (wx_copyShape_2 X _ _ _ _ _ _ _ _ (pb_copyShape_x X _ _ _ _ _ _ _ _ h.hR.1 h.hR.2.1 h.hR.2.2 h.hw.1 h.hw.2.1 h.hw.2.2 (by intro q; have q2 := q.2.2.2; rw [Int.toNat_natCast] at q2; omega))) (rb_copyShape_y X _ _ _ _ _ _ _ _ h.hg h.hw.1 h.hw.2.1 h.hw.2.2 g1.2 g2) hI9
  obtain ⟨l, rfl⟩ : ∃ k : Nat, a2 = (k : Int) := ⟨a2.toNat, by omega⟩
  by_cases g3 : (-48 ≤ a3 ∧ a3 ≤ 48) ∧ (-48 ≤ a4 ∧ a4 ≤ 48)
  rotate_left
  · exact two_x 2 (by decide) (wx_copyShape_1 X _ _ _ _ _ _ _ _ (pb_copyShape_y X _ _ _ _ _ _ _ _ h.hR.1 h.hR.2.1 h.hR.2.2 h.hw.1 h.hw.2.1 h.hw.2.2 g1.2 g2.2 g3)) (rb_copyShape_z X _ _ _ _ _ _ _ _ h.hg h.hw.1 h.hw.2.1 h.hw.2.2 g1.2 g2.2 (fun q => g3 ⟨q.1, q.2.1⟩)) hI9
  by_cases g4 : canP g k l a3 a4
  rotate_left
  · exact two_x 2 (by decide) (wx_copyShape_1 X _ _ _ _ _ _ _ _ (pb_copyShape_z X _ _ _ _ _ _ _ _ h.hR.1 h.hR.2.1 h.hR.2.2 h.hw.1 h.hw.2.1 h.hw.2.2 g1.2 g2.2 g3 g4)) (rb_copyShape_z X _ _ _ _ _ _ _ _ h.hg h.hw.1 h.hw.2.1 h.hw.2.2 g1.2 g2.2 (fun q => g4 q.2.2)) hI9
  have hr6 := (hw2.2.2 k g1.2).2.1
  obtain ⟨n, hn⟩ : ∃ n : Nat, g (37 * k + 12) = (n : Int) := ⟨(g (37 * k + 12)).toNat, by omega⟩
  by_cases g5 : n < 6
  rotate_left
  · exact two_x 3 (by decide) (wx_copyShape_0 X _ _ _ _ _ _ _ _ (pb_copyShape_w X _ _ _ _ _ _ _ _ h.hR.1 h.hR.2.1 h.hR.2.2 h.hw.1 h.hw.2.1 h.hw.2.2 g1.2 g2.2 g3 g4 (by omega))) (rb_copyShape_w X _ _ _ _ _ _ _ _ h.hg h.hw.1 h.hw.2.1 h.hw.2.2 g1.2 g2.2 ⟨g3.1, g3.2, g4⟩ (by omega)) hI9
  exact two_c h trivial (by rw [← cp_eq (g := g) (p := k) (s := l) (n := n) (x := a3) (y := a4) (by omega) g5]; exact h.hw.cp g1.2 hn (by omega) g5 g4) (wl_copyShape X _ _ _ _ _ _ _ _ ((pb_copyShape X _ _ _ _ k l n a3 a4 h.hH h.hR h.hw g1.2 hn (by omega) g5 g3 g4).mono (fun _ _ q => q.pz))) (fun I1 J1 e1 e2 e3 => by rw [← cp_eq (g := g) (p := k) (s := l) (n := n) (x := a3) (y := a4) (by omega) g5]; exact rb_copyShape X _ _ _ _ k l n a3 a4 e1 h.hw.1 h.hw.2.1 h.hw.2.2 e2 h.h8 e3 g1.2 hn (by omega) g5 g3 g4)
theorem tw_removeShape (X : AX) (I J : Nat → Nat → Int) (cc ss : Nat) (a1 a2 : Int) (hI : INV I J) : Two X k_L_removeShape k_X9_removeShape (0, [some (vr 0), some (vi a1), some (vi a2), some (vr 145), none], []) (0, [some (vr 135), some (vi a1), some (vi a2), none, none], []) (fun _ => True) I J cc ss := by
  have hI9 := hI
  obtain ⟨g, hs, m, tx, fl, n9, e9, D, h⟩ := hI
  have hw1 := h.hw.1
  have hw2 := h.hw.2.1
  have hw3 := h.hw.2.2
  have hw4 := hw1.1
  have hw5 := hw1.2.1
  have hw6 := hw2.1
  have hw7 := hw2.2.1
  have hw8 := hw3.1
  have hw9 := hw3.2.1
  by_cases g1 : 0 ≤ a1 ∧ a1 < g 11
  rotate_left
  · exact two_x 1 (by decide) (wx_removeShape_2 X _ _ _ _ _ _ (pb_removeShape_x X _ _ _ _ _ _ h.hR.1 h.hR.2.1 h.hR.2.2 h.hw.1 h.hw.2.1 h.hw.2.2 (fun q => g1 ⟨q.1, q.2.1⟩))) (rb_removeShape_x X _ _ _ _ _ _ h.hg h.hw.1 h.hw.2.1 h.hw.2.2 g1) hI9
  obtain ⟨k, rfl⟩ : ∃ k : Nat, a1 = (k : Int) := ⟨a1.toNat, by omega⟩
  by_cases g2 : 0 ≤ a2 ∧ a2 < g (37 * k + 12)
  rotate_left
  · exact two_x 1 (by decide) (wx_removeShape_2 X _ _ _ _ _ _ (pb_removeShape_x X _ _ _ _ _ _ h.hR.1 h.hR.2.1 h.hR.2.2 h.hw.1 h.hw.2.1 h.hw.2.2 (by intro q; have q2 := q.2.2.2; rw [Int.toNat_natCast] at q2; omega))) (rb_removeShape_y X _ _ _ _ _ _ h.hg h.hw.1 h.hw.2.1 h.hw.2.2 g1.2 g2) hI9
  obtain ⟨l, rfl⟩ : ∃ k : Nat, a2 = (k : Int) := ⟨a2.toNat, by omega⟩
  obtain ⟨n, hn⟩ : ∃ n : Nat, g (37 * k + 12) = (n : Int) := ⟨(g (37 * k + 12)).toNat, by omega⟩
  by_cases g3 : 1 < n
  rotate_left
  · exact two_x 2 (by decide) (wx_removeShape_0 X _ _ _ _ _ _ (pb_removeShape_y X _ _ _ _ _ _ h.hR.1 h.hR.2.1 h.hR.2.2 h.hw.1 h.hw.2.1 h.hw.2.2 g1.2 g2.2 (by omega))) (rb_removeShape_z X _ _ _ _ _ _ h.hg h.hw.1 h.hw.2.1 h.hw.2.2 g1.2 g2.2 (by omega)) hI9
  exact two_c h trivial (h.hw.dr g1.2 hn (by omega) g3) (wl_removeShape X _ _ _ _ _ _ ((pb_removeShape X _ _ _ _ k l n h.hH h.hR h.hw g1.2 hn (by omega) g3).mono (fun _ _ q => q.pz))) (fun I1 J1 e1 e2 e3 => rb_removeShape X _ _ _ _ k l n e1 h.hw.1 h.hw.2.1 h.hw.2.2 e2 h.h8 e3 g1.2 hn (by omega) g3)
theorem tw_removeUse (X : AX) (I J : Nat → Nat → Int) (cc ss : Nat) (a1 a2 : Int) (hI : INV I J) : Two X k_L_removeUse k_X9_removeUse (0, [some (vr 0), some (vi a1), some (vi a2), some (vr 145), none], []) (0, [some (vr 135), some (vi a1), some (vi a2), none, none], []) (fun _ => True) I J cc ss := by
  have hI9 := hI
  obtain ⟨g, hs, m, tx, fl, n9, e9, D, h⟩ := hI
  have hw1 := h.hw.1
  have hw2 := h.hw.2.1
  have hw3 := h.hw.2.2
  have hw4 := hw1.1
  have hw5 := hw1.2.1
  have hw6 := hw2.1
  have hw7 := hw2.2.1
  have hw8 := hw3.1
  have hw9 := hw3.2.1
  by_cases g1 : 0 ≤ a1 ∧ a1 < g 308
  rotate_left
  · exact two_x 1 (by decide) (wx_removeUse_2 X _ _ _ _ _ _ (pb_removeUse_x X _ _ _ _ _ _ h.hR.1 h.hR.2.1 h.hR.2.2 h.hw.1 h.hw.2.1 h.hw.2.2 (fun q => g1 ⟨q.1, q.2.1⟩))) (rb_removeUse_x X _ _ _ _ _ _ h.hg h.hw.1 h.hw.2.1 h.hw.2.2 g1) hI9
  obtain ⟨k, rfl⟩ : ∃ k : Nat, a1 = (k : Int) := ⟨a1.toNat, by omega⟩
  by_cases g2 : 0 ≤ a2 ∧ a2 < g (19 * k + 309)
  rotate_left
  · exact two_x 1 (by decide) (wx_removeUse_2 X _ _ _ _ _ _ (pb_removeUse_x X _ _ _ _ _ _ h.hR.1 h.hR.2.1 h.hR.2.2 h.hw.1 h.hw.2.1 h.hw.2.2 (by intro q; have q2 := q.2.2.2; rw [Int.toNat_natCast] at q2; omega))) (rb_removeUse_y X _ _ _ _ _ _ h.hg h.hw.1 h.hw.2.1 h.hw.2.2 g1.2 g2) hI9
  obtain ⟨l, rfl⟩ : ∃ k : Nat, a2 = (k : Int) := ⟨a2.toNat, by omega⟩
  obtain ⟨n, hn⟩ : ∃ n : Nat, g (19 * k + 309) = (n : Int) := ⟨(g (19 * k + 309)).toNat, by omega⟩
  exact two_c h trivial (h.hw.du g1.2 hn (by omega)) (wl_removeUse X _ _ _ _ _ _ ((pb_removeUse X _ _ _ _ k l n h.hH h.hR h.hw g1.2 hn (by omega)).mono (fun _ _ q => q.pz))) (fun I1 J1 e1 e2 e3 => rb_removeUse X _ _ _ _ k l n e1 h.hw.1 h.hw.2.1 h.hw.2.2 e2 h.h8 e3 g1.2 hn (by omega))
theorem tw_moveUse (X : AX) (I J : Nat → Nat → Int) (cc ss : Nat) (a1 a2 a3 a4 : Int) (hI : INV I J) : Two X k_L_moveUse k_X9_moveUse (0, [some (vr 0), some (vi a1), some (vi a2), some (vi a3), some (vi a4), some (vr 145), none], []) (0, [some (vr 135), some (vi a1), some (vi a2), some (vi a3), some (vi a4)], []) (fun _ => True) I J cc ss := by
  have hI9 := hI
  obtain ⟨g, hs, m, tx, fl, n9, e9, D, h⟩ := hI
  have hw1 := h.hw.1
  have hw2 := h.hw.2.1
  have hw3 := h.hw.2.2
  have hw4 := hw1.1
  have hw5 := hw1.2.1
  have hw6 := hw2.1
  have hw7 := hw2.2.1
  have hw8 := hw3.1
  have hw9 := hw3.2.1
  by_cases g1 : 0 ≤ a1 ∧ a1 < g 308
  rotate_left
  · exact two_x 1 (by decide) (wx_moveUse_2 X _ _ _ _ _ _ _ _ (pb_moveUse_x X _ _ _ _ _ _ _ _ h.hR.1 h.hR.2.1 h.hR.2.2 h.hw.1 h.hw.2.1 h.hw.2.2 (fun q => g1 ⟨q.1, q.2.1⟩))) (rb_moveUse_x X _ _ _ _ _ _ _ _ h.hg h.hw.1 h.hw.2.1 h.hw.2.2 g1) hI9
  obtain ⟨k, rfl⟩ : ∃ k : Nat, a1 = (k : Int) := ⟨a1.toNat, by omega⟩
  by_cases g2 : 0 ≤ a2 ∧ a2 < g (19 * k + 309)
  rotate_left
  · exact two_x 1 (by decide) (wx_moveUse_2 X _ _ _ _ _ _ _ _ (pb_moveUse_x X _ _ _ _ _ _ _ _ h.hR.1 h.hR.2.1 h.hR.2.2 h.hw.1 h.hw.2.1 h.hw.2.2 (by intro q; have q2 := q.2.2.2; rw [Int.toNat_natCast] at q2; omega))) (rb_moveUse_y X _ _ _ _ _ _ _ _ h.hg h.hw.1 h.hw.2.1 h.hw.2.2 g1.2 g2) hI9
  obtain ⟨l, rfl⟩ : ∃ k : Nat, a2 = (k : Int) := ⟨a2.toNat, by omega⟩
  by_cases g3 : -48 ≤ a3 ∧ a3 ≤ 48
  rotate_left
  · exact two_x 2 (by decide) (wx_moveUse_1 X _ _ _ _ _ _ _ _ (pb_moveUse_y X _ _ _ _ _ _ _ _ h.hR.1 h.hR.2.1 h.hR.2.2 h.hw.1 h.hw.2.1 h.hw.2.2 g1.2 g2.2 (fun q => g3 q.1))) (rb_moveUse_z X _ _ _ _ _ _ _ _ h.hg h.hw.1 h.hw.2.1 h.hw.2.2 g1.2 g2.2 g3) hI9
  by_cases g4 : -48 ≤ a4 ∧ a4 ≤ 48
  rotate_left
  · exact two_x 2 (by decide) (wx_moveUse_1 X _ _ _ _ _ _ _ _ (pb_moveUse_y X _ _ _ _ _ _ _ _ h.hR.1 h.hR.2.1 h.hR.2.2 h.hw.1 h.hw.2.1 h.hw.2.2 g1.2 g2.2 (fun q => g4 q.2))) (rb_moveUse_w X _ _ _ _ _ _ _ _ h.hg h.hw.1 h.hw.2.1 h.hw.2.2 g1.2 g2.2 g3 g4) hI9
  exact two_c h trivial (h.hw.mu g1.2 g2.2 g3 g4) (wl_moveUse X _ _ _ _ _ _ _ _ ((pb_moveUse X _ _ _ _ k l a3 a4 h.hH h.hR h.hw g1.2 g2.2 ⟨g3, g4⟩).mono (fun _ _ q => q.pz))) (fun I1 J1 e1 e2 e3 => rb_moveUse X _ _ _ _ k l a3 a4 e1 h.hw.1 h.hw.2.1 h.hw.2.2 e2 h.h8 e3 g1.2 g2.2 ⟨g3, g4⟩)
theorem tw_addUse (X : AX) (I J : Nat → Nat → Int) (cc ss : Nat) (a1 a2 a3 a4 : Int) (hI : INV I J) : Two X k_L_addUse k_X9_addUse (0, [some (vr 0), some (vi a1), some (vi a2), some (vi a3), some (vi a4), some (vr 145), none], []) (0, [some (vr 135), some (vi a1), some (vi a2), some (vi a3), some (vi a4), none], []) (fun _ => True) I J cc ss := by
  have hI9 := hI
  obtain ⟨g, hs, m, tx, fl, n9, e9, D, h⟩ := hI
  have hw1 := h.hw.1
  have hw2 := h.hw.2.1
  have hw3 := h.hw.2.2
  have hw4 := hw1.1
  have hw5 := hw1.2.1
  have hw6 := hw2.1
  have hw7 := hw2.2.1
  have hw8 := hw3.1
  have hw9 := hw3.2.1
  by_cases g1 : 0 ≤ a1 ∧ a1 < g 308
  rotate_left
  · exact two_x 1 (by decide) (wx_addUse_2 X _ _ _ _ _ _ _ _ (pb_addUse_x X _ _ _ _ _ _ _ _ h.hR.1 h.hR.2.1 h.hR.2.2 h.hw.1 h.hw.2.1 h.hw.2.2 g1)) (rb_addUse_x X _ _ _ _ _ _ _ _ h.hg h.hw.1 h.hw.2.1 h.hw.2.2 g1) hI9
  obtain ⟨k, rfl⟩ : ∃ k : Nat, a1 = (k : Int) := ⟨a1.toNat, by omega⟩
  by_cases g2 : 0 ≤ a2 ∧ a2 < g 11
  rotate_left
  · exact two_x 1 (by decide) (wx_addUse_2 X _ _ _ _ _ _ _ _ (pb_addUse_y X _ _ _ _ _ _ _ _ h.hR.1 h.hR.2.1 h.hR.2.2 h.hw.1 h.hw.2.1 h.hw.2.2 g1.2 g2)) (rb_addUse_y X _ _ _ _ _ _ _ _ h.hg h.hw.1 h.hw.2.1 h.hw.2.2 g1.2 g2) hI9
  obtain ⟨l, rfl⟩ : ∃ k : Nat, a2 = (k : Int) := ⟨a2.toNat, by omega⟩
  by_cases g3 : -48 ≤ a3 ∧ a3 ≤ 48
  rotate_left
  · exact two_x 2 (by decide) (wx_addUse_1 X _ _ _ _ _ _ _ _ (pb_addUse_z X _ _ _ _ _ _ _ _ h.hR.1 h.hR.2.1 h.hR.2.2 h.hw.1 h.hw.2.1 h.hw.2.2 g1.2 g2.2 (fun q => g3 q.1))) (rb_addUse_z X _ _ _ _ _ _ _ _ h.hg h.hw.1 h.hw.2.1 h.hw.2.2 g1.2 g2.2 g3) hI9
  by_cases g4 : -48 ≤ a4 ∧ a4 ≤ 48
  rotate_left
  · exact two_x 2 (by decide) (wx_addUse_1 X _ _ _ _ _ _ _ _ (pb_addUse_z X _ _ _ _ _ _ _ _ h.hR.1 h.hR.2.1 h.hR.2.2 h.hw.1 h.hw.2.1 h.hw.2.2 g1.2 g2.2 (fun q => g4 q.2))) (rb_addUse_v X _ _ _ _ _ _ _ _ h.hg h.hw.1 h.hw.2.1 h.hw.2.2 g1.2 g2.2 g3 g4) hI9
  have hr6 := hw3.2.2 k g1.2
  have hr7 := hr6.2.1
  have hr8 := hr6.1
  obtain ⟨n, hn⟩ : ∃ n : Nat, g (19 * k + 309) = (n : Int) := ⟨(g (19 * k + 309)).toNat, by omega⟩
  by_cases g5 : n < 6
  rotate_left
  · exact two_x 3 (by decide) (wx_addUse_0 X _ _ _ _ _ _ _ _ (pb_addUse_w X _ _ _ _ _ _ _ _ h.hR.1 h.hR.2.1 h.hR.2.2 h.hw.1 h.hw.2.1 h.hw.2.2 g1.2 g2.2 ⟨g3, g4⟩ (by omega))) (rb_addUse_w X _ _ _ _ _ _ _ _ h.hg h.hw.1 h.hw.2.1 h.hw.2.2 g1.2 g2.2 g3 g4 (by omega)) hI9
  exact two_c h trivial (by rw [← auF_eq]; exact h.hw.au g1.2 g2.2 g3 g4 hn g5) (wl_addUse X _ _ _ _ _ _ _ _ ((pb_addUse X _ _ _ _ k l n a3 a4 h.hH h.hR h.hw g1.2 g2.2 ⟨g3, g4⟩ hn g5).mono (fun _ _ q => q.pz))) (fun I1 J1 e1 e2 e3 => by rw [← auF_eq]; exact rb_addUse X _ _ _ _ k l n a3 a4 e1 h.hw.1 h.hw.2.1 h.hw.2.2 e2 h.h8 e3 g1.2 g2.2 ⟨g3, g4⟩ hn g5)
theorem tw_addSize (X : AX) (I J : Nat → Nat → Int) (cc ss : Nat) (a1 : Int) (hI : INV I J) : Two X k_L_addSize k_X9_addSize (0, [some (vr 0), some (vi a1), some (vr 145), none], []) (0, [some (vr 135), some (vi a1)], []) (fun _ => True) I J cc ss := by
  have hI9 := hI
  obtain ⟨g, hs, m, tx, fl, n9, e9, D, h⟩ := hI
  have hw1 := h.hw.1
  have hw2 := h.hw.2.1
  have hw3 := h.hw.2.2
  have hw4 := hw1.1
  have hw5 := hw1.2.1
  have hw6 := hw2.1
  have hw7 := hw2.2.1
  have hw8 := hw3.1
  have hw9 := hw3.2.1
  by_cases g1 : 4 ≤ a1 ∧ a1 ≤ 32
  rotate_left
  · exact two_x 1 (by decide) (wx_addSize_1 X _ _ _ _ _ (pb_addSize_x X _ _ _ _ _ h.hR.1 h.hR.2.1 h.hR.2.2 h.hw.1 h.hw.2.1 h.hw.2.2 g1)) (rb_addSize_x X _ _ _ _ _ h.hg h.hw.1 h.hw.2.1 h.hw.2.2 g1) hI9
  obtain ⟨n, hn⟩ : ∃ n : Nat, g 0 = (n : Int) := ⟨(g 0).toNat, by omega⟩
  by_cases g2 : n < 5
  rotate_left
  · exact two_x 2 (by decide) (wx_addSize_0 X _ _ _ _ _ (pb_addSize_y X _ _ _ _ _ h.hR.1 h.hR.2.1 h.hR.2.2 h.hw.1 h.hw.2.1 h.hw.2.2 g1 (by omega))) (rb_addSize_y X _ _ _ _ _ h.hg h.hw.1 h.hw.2.1 h.hw.2.2 g1 (by omega)) hI9
  have hf := fnd_rng (fun r => g (2 * r + 1)) a1 (g 0).toNat 0
  by_cases g3 : fnd (fun r => g (2 * r + 1)) a1 (g 0).toNat 0 = -1
  rotate_left
  · exact two_x 2 (by decide) (wx_addSize_0 X _ _ _ _ _ (pb_addSize_z X _ _ _ _ _ h.hR.1 h.hR.2.1 h.hR.2.2 h.hw.1 h.hw.2.1 h.hw.2.2 g1 (by omega) g3)) (rb_addSize_z X _ _ _ _ _ h.hg h.hw.1 h.hw.2.1 h.hw.2.2 g1 (by omega) (by rcases hf with q | ⟨k, _, _, q, _⟩ <;> omega)) hI9
  refine two_ok (wl_addSize X _ _ _ _ _ (pb_addSize X _ _ _ _ a1 n h.hH h.hR h.hw g1 hn g2 g3)) (fun z I1 J1 hp => ?_)
  obtain ⟨ho, hHn, pl, rfl, b1, b2, b3, hRn⟩ := hp
  refine (rb_addSize X _ _ _ _ a1 n ((up2_row _ _ _ _ (by decide)).trans ((ho 136 (by omega)).2.trans h.hg)) h.hw.1 h.hw.2.1 h.hw.2.2 (hs := hs) ((congrFun (ho 135 (by omega)).1 3).trans h.h3) h.h8 (fun q k h1 h2 => by rw [up2_row _ _ _ _ (by decide), (ho 138 (by omega)).2]; exact h.hM q k h1 h2) g1 hn g2 (by omega)).mono (fun o T q => ?_)
  obtain ⟨r, I2, J2, rfl, rfl, pl2, rfl, c1, c2, c3, hN⟩ := q
  have e := ins_uniq h.hw.1 hn (fun j hj => fnd_none _ _ g3 j (by omega) (by omega)) b1 b2 b3 c1 c2 c3
  subst e
  have ha2 : pl = 0 ∨ g (2 * (pl - 1) + 1) < a1 := by
    by_cases e0 : pl = 0
    · exact .inl e0
    · exact .inr (c2 (pl - 1) (by omega))
  have hG : WF (insF g pl n a1 0) := h.hw.ins hn g2 b1 g1 (by omega) ha2 b3
  exact ⟨_, _, _, rfl, rfl, hN.1.2.2.1, ⟨(congrFun (hN.1.2.2.2 145 (by decide) (by decide)) 0).trans (up2_same _ _ _ _), trivial⟩, _, _, _, tx, fl, n9, e9, D, h.chg hG ⟨ho, hHn, hRn⟩ hN⟩
