/-! BOTH SIDES OF A QUESTION (printed by gen/g98l.py) -/
theorem b01 (P : Prop) [Decidable P] : (if P then (1 : Int) else 0) = 0 ∨ (if P then (1 : Int) else 0) = 1 := by by_cases e : P <;> simp [e]
theorem tw_count (X : AX) (I J : Nat → Nat → Int) (cc ss : Nat) (a1 : Int) (hI : INV I J) : Two X k_L_count k_X9_count (0, [some (vr 0), some (vi a1), some (vr 145), none], []) (0, [some (vr 135), some (vi a1)], []) (fun _ => True) I J cc ss := by
  have hI9 := hI
  obtain ⟨g, hs, m, tx, fl, n9, e9, D, h⟩ := hI
  have hw1 := h.hw.1
  have hw2 := h.hw.2.1
  have hw3 := h.hw.2.2
  have hw4 := hw1.1
  have hw5 := hw1.2.1
  have hw6 := hw2.1
  have hw7 := hw2.2.1
  have hw8 := hw3.1
  have hw9 := hw3.2.1
  by_cases g1 : 0 ≤ a1 ∧ a1 ≤ 5
  rotate_left
  · exact two_x 1 (by decide) (wx_count_1 X _ _ _ _ _ (pb_count_x X _ _ _ _ _ h.hR.1 h.hR.2.1 h.hR.2.2 h.hw.1 h.hw.2.1 h.hw.2.2 g1)) (rb_count_x X _ _ _ _ _ h.hg h.hw.1 h.hw.2.1 h.hw.2.2 g1) hI9
  rcases (show a1 = 0 ∨ a1 = 1 ∨ a1 = 2 ∨ a1 = 3 ∨ a1 = 4 ∨ a1 = 5 by omega) with rfl | rfl | rfl | rfl | rfl | rfl
  · exact two_q hI9 trivial (wl_count X _ _ _ _ _ ((pb_count_0 X _ _ _ _  h.hR.1 h.hR.2.1 h.hR.2.2 h.hw.1 h.hw.2.1 h.hw.2.2 ).mono (fun _ _ q => q.pz))) (fun I1 h1 => rb_count_0 X _ _ _ _  ((up2_row _ _ _ _ (by decide)).trans h.hg) h.hw.1 h.hw.2.1 h.hw.2.2 )
  · exact two_q hI9 trivial (wl_count X _ _ _ _ _ ((pb_count_1 X _ _ _ _  h.hR.1 h.hR.2.1 h.hR.2.2 h.hw.1 h.hw.2.1 h.hw.2.2 ).mono (fun _ _ q => q.pz))) (fun I1 h1 => rb_count_1 X _ _ _ _  ((up2_row _ _ _ _ (by decide)).trans h.hg) h.hw.1 h.hw.2.1 h.hw.2.2 )
  · exact two_q hI9 trivial (wl_count X _ _ _ _ _ ((pb_count_2 X _ _ _ _  h.hR.1 h.hR.2.1 h.hR.2.2 h.hw.1 h.hw.2.1 h.hw.2.2 ).mono (fun _ _ q => q.pz))) (fun I1 h1 => rb_count_2 X _ _ _ _  ((up2_row _ _ _ _ (by decide)).trans h.hg) h.hw.1 h.hw.2.1 h.hw.2.2 )
  · exact two_q hI9 trivial (wl_count X _ _ _ _ _ ((pb_count_3 X _ _ _ _  h.hR.1 h.hR.2.1 h.hR.2.2 h.hw.1 h.hw.2.1 h.hw.2.2 ).mono (fun _ _ q => q.pz))) (fun I1 h1 => rb_count_3 X _ _ _ _  ((up2_row _ _ _ _ (by decide)).trans h.hg) h.hw.1 h.hw.2.1 h.hw.2.2 )
  · exact two_q hI9 trivial (wl_count X _ _ _ _ _ ((pb_count_4 X _ _ _ _  h.hR.1 h.hR.2.1 h.hR.2.2 h.hw.1 h.hw.2.1 h.hw.2.2 ).mono (fun _ _ q => q.pz))) (fun I1 h1 => rb_count_4 X _ _ _ _  ((up2_row _ _ _ _ (by decide)).trans h.hg) h.hw.1 h.hw.2.1 h.hw.2.2 )
  · exact two_q hI9 trivial (wl_count X _ _ _ _ _ ((pb_count_5 X _ _ _ _  h.hR.1 h.hR.2.1 h.hR.2.2 h.hw.1 h.hw.2.1 h.hw.2.2 ).mono (fun _ _ q => q.pz))) (fun I1 h1 => rb_count_5 X _ _ _ _  ((up2_row _ _ _ _ (by decide)).trans h.hg) h.hw.1 h.hw.2.1 h.hw.2.2 )
theorem tw_size (X : AX) (I J : Nat → Nat → Int) (cc ss : Nat) (a1 a2 : Int) (hI : INV I J) : Two X k_L_size k_X9_size (0, [some (vr 0), some (vi a1), some (vi a2), some (vr 145), none], []) (0, [some (vr 135), some (vi a1), some (vi a2)], []) (fun _ => True) I J cc ss := by
  have hI9 := hI
  obtain ⟨g, hs, m, tx, fl, n9, e9, D, h⟩ := hI
  have hw1 := h.hw.1
  have hw2 := h.hw.2.1
  have hw3 := h.hw.2.2
  have hw4 := hw1.1
  have hw5 := hw1.2.1
  have hw6 := hw2.1
  have hw7 := hw2.2.1
  have hw8 := hw3.1
  have hw9 := hw3.2.1
  by_cases g1 : 0 ≤ a1 ∧ a1 < g 0
  rotate_left
  · exact two_x 1 (by decide) (wx_size_2 X _ _ _ _ _ _ (pb_size_x X _ _ _ _ _ _ h.hR.1 h.hR.2.1 h.hR.2.2 h.hw.1 h.hw.2.1 h.hw.2.2 g1)) (rb_size_x X _ _ _ _ _ _ h.hg h.hw.1 h.hw.2.1 h.hw.2.2 g1) hI9
  obtain ⟨k, rfl⟩ : ∃ k : Nat, a1 = (k : Int) := ⟨a1.toNat, by omega⟩
  by_cases g2 : 0 ≤ a2 ∧ a2 ≤ 2
  rotate_left
  · exact two_x 2 (by decide) (wx_size_1 X _ _ _ _ _ _ (pb_size_y X _ _ _ _ _ _ h.hR.1 h.hR.2.1 h.hR.2.2 h.hw.1 h.hw.2.1 h.hw.2.2 g1.2 g2)) (rb_size_y X _ _ _ _ _ _ h.hg h.hw.1 h.hw.2.1 h.hw.2.2 g1.2 g2) hI9
  rcases (show a2 = 0 ∨ a2 = 1 ∨ a2 = 2 by omega) with rfl | rfl | rfl
  · exact two_q hI9 trivial (wl_size X _ _ _ _ _ _ ((pb_size_0 X _ _ _ _ _ h.hR.1 h.hR.2.1 h.hR.2.2 h.hw.1 h.hw.2.1 h.hw.2.2 g1.2).mono (fun _ _ q => q.pz))) (fun I1 h1 => rb_size_0 X _ _ _ _ _ ((up2_row _ _ _ _ (by decide)).trans h.hg) h.hw.1 h.hw.2.1 h.hw.2.2 g1.2)
  · exact two_q hI9 trivial (wl_size X _ _ _ _ _ _ ((pb_size_1 X _ _ _ _ _ h.hR.1 h.hR.2.1 h.hR.2.2 h.hw.1 h.hw.2.1 h.hw.2.2 g1.2).mono (fun _ _ q => q.pz))) (fun I1 h1 => rb_size_1 X _ _ _ _ _ ((up2_row _ _ _ _ (by decide)).trans h.hg) h.hw.1 h.hw.2.1 h.hw.2.2 g1.2)
  · exact two_q hI9 trivial (wl_size X _ _ _ _ _ _ ((pb_size_2 X _ _ _ _ _ h.hR.1 h.hR.2.1 h.hR.2.2 h.hw.1 h.hw.2.1 h.hw.2.2 g1.2).mono (fun _ _ q => q.pz))) (fun I1 h1 => rb_size_2 X _ _ _ _ _ ((up2_row _ _ _ _ (by decide)).trans h.hg) h.hw.1 h.hw.2.1 h.hw.2.2 g1.2)
theorem tw_stroke (X : AX) (I J : Nat → Nat → Int) (cc ss : Nat) (a1 a2 : Int) (hI : INV I J) : Two X k_L_stroke k_X9_stroke (0, [some (vr 0), some (vi a1), some (vi a2), some (vr 145), none], []) (0, [some (vr 135), some (vi a1), some (vi a2)], []) (fun _ => True) I J cc ss := by
  have hI9 := hI
  obtain ⟨g, hs, m, tx, fl, n9, e9, D, h⟩ := hI
  have hw1 := h.hw.1
  have hw2 := h.hw.2.1
  have hw3 := h.hw.2.2
  have hw4 := hw1.1
  have hw5 := hw1.2.1
  have hw6 := hw2.1
  have hw7 := hw2.2.1
  have hw8 := hw3.1
  have hw9 := hw3.2.1
  by_cases g1 : 0 ≤ a1 ∧ a1 < g 0
  rotate_left
  · exact two_x 1 (by decide) (wx_stroke_2 X _ _ _ _ _ _ (pb_stroke_x X _ _ _ _ _ _ h.hR.1 h.hR.2.1 h.hR.2.2 h.hw.1 h.hw.2.1 h.hw.2.2 g1)) (rb_stroke_x X _ _ _ _ _ _ h.hg h.hw.1 h.hw.2.1 h.hw.2.2 g1) hI9
  obtain ⟨k, rfl⟩ : ∃ k : Nat, a1 = (k : Int) := ⟨a1.toNat, by omega⟩
  by_cases g2 : 1 ≤ a2 ∧ a2 ≤ 12
  rotate_left
  · exact two_x 2 (by decide) (wx_stroke_1 X _ _ _ _ _ _ (pb_stroke_y X _ _ _ _ _ _ h.hR.1 h.hR.2.1 h.hR.2.2 h.hw.1 h.hw.2.1 h.hw.2.2 g1.2 g2)) (rb_stroke_y X _ _ _ _ _ _ h.hg h.hw.1 h.hw.2.1 h.hw.2.2 g1.2 g2) hI9
  exact two_q hI9 trivial (wl_stroke X _ _ _ _ _ _ ((pb_stroke X _ _ _ _ _ _ h.hR.1 h.hR.2.1 h.hR.2.2 h.hw.1 h.hw.2.1 h.hw.2.2 g1.2 g2).mono (fun _ _ q => q.pz))) (fun I1 h1 => rb_stroke X _ _ _ _ _ _ ((up2_row _ _ _ _ (by decide)).trans h.hg) h.hw.1 h.hw.2.1 h.hw.2.2 g1.2 g2)
theorem tw_part (X : AX) (I J : Nat → Nat → Int) (cc ss : Nat) (a1 a2 : Int) (hI : INV I J) : Two X k_L_part k_X9_part (0, [some (vr 0), some (vi a1), some (vi a2), some (vr 145), none], []) (0, [some (vr 135), some (vi a1), some (vi a2)], []) (fun _ => True) I J cc ss := by
  have hI9 := hI
  obtain ⟨g, hs, m, tx, fl, n9, e9, D, h⟩ := hI
  have hw1 := h.hw.1
  have hw2 := h.hw.2.1
  have hw3 := h.hw.2.2
  have hw4 := hw1.1
  have hw5 := hw1.2.1
  have hw6 := hw2.1
  have hw7 := hw2.2.1
  have hw8 := hw3.1
  have hw9 := hw3.2.1
  by_cases g1 : 0 ≤ a1 ∧ a1 < g 11
  rotate_left
  · exact two_x 1 (by decide) (wx_part_2 X _ _ _ _ _ _ (pb_part_x X _ _ _ _ _ _ h.hR.1 h.hR.2.1 h.hR.2.2 h.hw.1 h.hw.2.1 h.hw.2.2 g1)) (rb_part_x X _ _ _ _ _ _ h.hg h.hw.1 h.hw.2.1 h.hw.2.2 g1) hI9
  obtain ⟨k, rfl⟩ : ∃ k : Nat, a1 = (k : Int) := ⟨a1.toNat, by omega⟩
  by_cases g2 : 0 ≤ a2 ∧ a2 ≤ 2
  rotate_left
  · exact two_x 2 (by decide) (wx_part_1 X _ _ _ _ _ _ (pb_part_y X _ _ _ _ _ _ h.hR.1 h.hR.2.1 h.hR.2.2 h.hw.1 h.hw.2.1 h.hw.2.2 g1.2 g2)) (rb_part_y X _ _ _ _ _ _ h.hg h.hw.1 h.hw.2.1 h.hw.2.2 g1.2 g2) hI9
  rcases (show a2 = 0 ∨ a2 = 1 ∨ a2 = 2 by omega) with rfl | rfl | rfl
  · exact two_q hI9 trivial (wl_part X _ _ _ _ _ _ ((pb_part_0 X _ _ _ _ _ h.hR.1 h.hR.2.1 h.hR.2.2 h.hw.1 h.hw.2.1 h.hw.2.2 g1.2).mono (fun _ _ q => q.pz))) (fun I1 h1 => rb_part_0 X _ _ _ _ _ ((up2_row _ _ _ _ (by decide)).trans h.hg) h.hw.1 h.hw.2.1 h.hw.2.2 g1.2)
  · exact two_q hI9 trivial (wl_part X _ _ _ _ _ _ ((pb_part_1 X _ _ _ _ _ h.hR.1 h.hR.2.1 h.hR.2.2 h.hw.1 h.hw.2.1 h.hw.2.2 g1.2).mono (fun _ _ q => q.pz))) (fun I1 h1 => rb_part_1 X _ _ _ _ _ ((up2_row _ _ _ _ (by decide)).trans h.hg) h.hw.1 h.hw.2.1 h.hw.2.2 g1.2)
  · exact two_q hI9 trivial (wl_part X _ _ _ _ _ _ ((pb_part_2 X _ _ _ _ _ h.hR.1 h.hR.2.1 h.hR.2.2 h.hw.1 h.hw.2.1 h.hw.2.2 g1.2).mono (fun _ _ q => q.pz))) (fun I1 h1 => rb_part_2 X _ _ _ _ _ ((up2_row _ _ _ _ (by decide)).trans h.hg) h.hw.1 h.hw.2.1 h.hw.2.2 g1.2)
theorem tw_shape (X : AX) (I J : Nat → Nat → Int) (cc ss : Nat) (a1 a2 a3 : Int) (hI : INV I J) : Two X k_L_shape k_X9_shape (0, [some (vr 0), some (vi a1), some (vi a2), some (vi a3), some (vr 145), none], []) (0, [some (vr 135), some (vi a1), some (vi a2), some (vi a3)], []) (fun _ => True) I J cc ss := by
  have hI9 := hI
  obtain ⟨g, hs, m, tx, fl, n9, e9, D, h⟩ := hI
  have hw1 := h.hw.1
  have hw2 := h.hw.2.1
  have hw3 := h.hw.2.2
  have hw4 := hw1.1
  have hw5 := hw1.2.1
  have hw6 := hw2.1
  have hw7 := hw2.2.1
  have hw8 := hw3.1
  have hw9 := hw3.2.1
  by_cases g1 : 0 ≤ a1 ∧ a1 < g 11
  rotate_left
  · exact two_x 1 (by decide) (wx_shape_2 X _ _ _ _ _ _ _ (pb_shape_x X _ _ _ _ _ _ _ h.hR.1 h.hR.2.1 h.hR.2.2 h.hw.1 h.hw.2.1 h.hw.2.2 (fun q => g1 ⟨q.1, q.2.1⟩))) (rb_shape_x X _ _ _ _ _ _ _ h.hg h.hw.1 h.hw.2.1 h.hw.2.2 g1) hI9
  obtain ⟨k, rfl⟩ : ∃ k : Nat, a1 = (k : Int) := ⟨a1.toNat, by omega⟩
  by_cases g2 : 0 ≤ a2 ∧ a2 < g (37 * k + 12)
  rotate_left
  · exact two_x 1 (by decide) (wx_shape_2 X _ _ _ _ _ _ _ (pb_shape_x X _ _ _ _ _ _ _ h.hR.1 h.hR.2.1 h.hR.2.2 h.hw.1 h.hw.2.1 h.hw.2.2 (by intro q; have q2 := q.2.2.2; rw [Int.toNat_natCast] at q2; omega))) (rb_shape_y X _ _ _ _ _ _ _ h.hg h.hw.1 h.hw.2.1 h.hw.2.2 g1.2 g2) hI9
  obtain ⟨l, rfl⟩ : ∃ k : Nat, a2 = (k : Int) := ⟨a2.toNat, by omega⟩
  by_cases g3 : 0 ≤ a3 ∧ a3 ≤ 5
  rotate_left
  · exact two_x 2 (by decide) (wx_shape_1 X _ _ _ _ _ _ _ (pb_shape_y X _ _ _ _ _ _ _ h.hR.1 h.hR.2.1 h.hR.2.2 h.hw.1 h.hw.2.1 h.hw.2.2 g1.2 g2.2 g3)) (rb_shape_z X _ _ _ _ _ _ _ h.hg h.hw.1 h.hw.2.1 h.hw.2.2 g1.2 g2.2 g3) hI9
  obtain ⟨w, rfl⟩ : ∃ k : Nat, a3 = (k : Int) := ⟨a3.toNat, by omega⟩
  exact two_q hI9 trivial (wl_shape X _ _ _ _ _ _ _ ((pb_shape X _ _ _ _ _ _ w h.hR.1 h.hR.2.1 h.hR.2.2 h.hw.1 h.hw.2.1 h.hw.2.2 g1.2 g2.2 (by omega)).mono (fun _ _ q => q.pz))) (fun I1 h1 => rb_shape X _ _ _ _ _ _ w ((up2_row _ _ _ _ (by decide)).trans h.hg) h.hw.1 h.hw.2.1 h.hw.2.2 g1.2 g2.2 (by omega))
theorem tw_use (X : AX) (I J : Nat → Nat → Int) (cc ss : Nat) (a1 a2 a3 : Int) (hI : INV I J) : Two X k_L_use k_X9_use (0, [some (vr 0), some (vi a1), some (vi a2), some (vi a3), some (vr 145), none], []) (0, [some (vr 135), some (vi a1), some (vi a2), some (vi a3)], []) (fun _ => True) I J cc ss := by
  have hI9 := hI
  obtain ⟨g, hs, m, tx, fl, n9, e9, D, h⟩ := hI
  have hw1 := h.hw.1
  have hw2 := h.hw.2.1
  have hw3 := h.hw.2.2
  have hw4 := hw1.1
  have hw5 := hw1.2.1
  have hw6 := hw2.1
  have hw7 := hw2.2.1
  have hw8 := hw3.1
  have hw9 := hw3.2.1
  by_cases g1 : 0 ≤ a1 ∧ a1 < g 308
  rotate_left
  · exact two_x 1 (by decide) (wx_use_2 X _ _ _ _ _ _ _ (pb_use_x X _ _ _ _ _ _ _ h.hR.1 h.hR.2.1 h.hR.2.2 h.hw.1 h.hw.2.1 h.hw.2.2 (fun q => g1 ⟨q.1, q.2.1⟩))) (rb_use_x X _ _ _ _ _ _ _ h.hg h.hw.1 h.hw.2.1 h.hw.2.2 g1) hI9
  obtain ⟨k, rfl⟩ : ∃ k : Nat, a1 = (k : Int) := ⟨a1.toNat, by omega⟩
  by_cases g2 : 0 ≤ a2 ∧ a2 < g (19 * k + 309)
  rotate_left
  · exact two_x 1 (by decide) (wx_use_2 X _ _ _ _ _ _ _ (pb_use_x X _ _ _ _ _ _ _ h.hR.1 h.hR.2.1 h.hR.2.2 h.hw.1 h.hw.2.1 h.hw.2.2 (by intro q; have q2 := q.2.2.2; rw [Int.toNat_natCast] at q2; omega))) (rb_use_y X _ _ _ _ _ _ _ h.hg h.hw.1 h.hw.2.1 h.hw.2.2 g1.2 g2) hI9
  obtain ⟨l, rfl⟩ : ∃ k : Nat, a2 = (k : Int) := ⟨a2.toNat, by omega⟩
  by_cases g3 : 0 ≤ a3 ∧ a3 ≤ 2
  rotate_left
  · exact two_x 2 (by decide) (wx_use_1 X _ _ _ _ _ _ _ (pb_use_y X _ _ _ _ _ _ _ h.hR.1 h.hR.2.1 h.hR.2.2 h.hw.1 h.hw.2.1 h.hw.2.2 g1.2 g2.2 g3)) (rb_use_z X _ _ _ _ _ _ _ h.hg h.hw.1 h.hw.2.1 h.hw.2.2 g1.2 g2.2 g3) hI9
  obtain ⟨w, rfl⟩ : ∃ k : Nat, a3 = (k : Int) := ⟨a3.toNat, by omega⟩
  exact two_q hI9 trivial (wl_use X _ _ _ _ _ _ _ ((pb_use X _ _ _ _ _ _ w h.hR.1 h.hR.2.1 h.hR.2.2 h.hw.1 h.hw.2.1 h.hw.2.2 g1.2 g2.2 (by omega)).mono (fun _ _ q => q.pz))) (fun I1 h1 => rb_use X _ _ _ _ _ _ w ((up2_row _ _ _ _ (by decide)).trans h.hg) h.hw.1 h.hw.2.1 h.hw.2.2 g1.2 g2.2 (by omega))
theorem tw_uses (X : AX) (I J : Nat → Nat → Int) (cc ss : Nat) (a1 : Int) (hI : INV I J) : Two X k_L_uses k_X9_uses (0, [some (vr 0), some (vi a1), some (vr 145), none], []) (0, [some (vr 135), some (vi a1)], []) (fun _ => True) I J cc ss := by
  have hI9 := hI
  obtain ⟨g, hs, m, tx, fl, n9, e9, D, h⟩ := hI
  have hw1 := h.hw.1
  have hw2 := h.hw.2.1
  have hw3 := h.hw.2.2
  have hw4 := hw1.1
  have hw5 := hw1.2.1
  have hw6 := hw2.1
  have hw7 := hw2.2.1
  have hw8 := hw3.1
  have hw9 := hw3.2.1
  by_cases g1 : 0 ≤ a1 ∧ a1 < g 308
  rotate_left
  · exact two_x 1 (by decide) (wx_uses_2 X _ _ _ _ _ (pb_uses_x X _ _ _ _ _ h.hR.1 h.hR.2.1 h.hR.2.2 h.hw.1 h.hw.2.1 h.hw.2.2 g1)) (rb_uses_x X _ _ _ _ _ h.hg h.hw.1 h.hw.2.1 h.hw.2.2 g1) hI9
  obtain ⟨k, rfl⟩ : ∃ k : Nat, a1 = (k : Int) := ⟨a1.toNat, by omega⟩
  exact two_q hI9 trivial (wl_uses X _ _ _ _ _ ((pb_uses X _ _ _ _ _ h.hR.1 h.hR.2.1 h.hR.2.2 h.hw.1 h.hw.2.1 h.hw.2.2 g1.2).mono (fun _ _ q => q.pz))) (fun I1 h1 => rb_uses X _ _ _ _ _ ((up2_row _ _ _ _ (by decide)).trans h.hg) h.hw.1 h.hw.2.1 h.hw.2.2 g1.2)
theorem tw_isInked (X : AX) (I J : Nat → Nat → Int) (cc ss : Nat) (a1 a2 a3 a4 : Int) (hI : INV I J) : Two X k_L_isInked k_X9_isInked (0, [some (vr 0), some (vi a1), some (vi a2), some (vi a3), some (vi a4), some (vr 145), none], []) (0, [some (vr 135), some (vi a1), some (vi a2), some (vi a3), some (vi a4)], []) (fun r => r = 0 ∨ r = 1) I J cc ss := by
  have hI9 := hI
  obtain ⟨g, hs, m, tx, fl, n9, e9, D, h⟩ := hI
  have hw1 := h.hw.1
  have hw2 := h.hw.2.1
  have hw3 := h.hw.2.2
  have hw4 := hw1.1
  have hw5 := hw1.2.1
  have hw6 := hw2.1
  have hw7 := hw2.2.1
  have hw8 := hw3.1
  have hw9 := hw3.2.1
  by_cases g1 : (0 ≤ a1 ∧ a1 < g 308) ∧ (0 ≤ a2 ∧ a2 < g 0)
  rotate_left
  · exact two_x 1 (by decide) (wx_isInked_2 X _ _ _ _ _ _ _ _ (pb_isInked_x X _ _ _ _ _ _ _ _ h.hR.1 h.hR.2.1 h.hR.2.2 h.hw.1 h.hw.2.1 h.hw.2.2 g1)) (rb_isInked_x X _ _ _ _ _ _ _ _ h.hg h.hw.1 h.hw.2.1 h.hw.2.2 g1) hI9
  obtain ⟨k, rfl⟩ : ∃ k : Nat, a1 = (k : Int) := ⟨a1.toNat, by omega⟩
  obtain ⟨l, rfl⟩ : ∃ k : Nat, a2 = (k : Int) := ⟨a2.toNat, by omega⟩
  by_cases g2 : 0 ≤ a3 ∧ a3 ≤ g (2 * l + 1) - 1
  rotate_left
  · exact two_x 1 (by decide) (wx_isInked_2 X _ _ _ _ _ _ _ _ (pb_isInked_y X _ _ _ _ _ _ _ _ h.hR.1 h.hR.2.1 h.hR.2.2 h.hw.1 h.hw.2.1 h.hw.2.2 g1.1.2 g1.2.2 g2)) (rb_isInked_y X _ _ _ _ _ _ _ _ h.hg h.hw.1 h.hw.2.1 h.hw.2.2 g1.1.2 g1.2.2 g2) hI9
  by_cases g3 : 0 ≤ a4 ∧ a4 ≤ g (2 * l + 1) - 1
  rotate_left
  · exact two_x 1 (by decide) (wx_isInked_2 X _ _ _ _ _ _ _ _ (pb_isInked_z X _ _ _ _ _ _ _ _ h.hR.1 h.hR.2.1 h.hR.2.2 h.hw.1 h.hw.2.1 h.hw.2.2 g1.1.2 g1.2.2 g2 g3)) (rb_isInked_z X _ _ _ _ _ _ _ _ h.hg h.hw.1 h.hw.2.1 h.hw.2.2 g1.1.2 g1.2.2 g2 g3) hI9
  obtain ⟨u, rfl⟩ : ∃ k : Nat, a3 = (k : Int) := ⟨a3.toNat, by omega⟩
  obtain ⟨v, rfl⟩ : ∃ k : Nat, a4 = (k : Int) := ⟨a4.toNat, by omega⟩
  exact two_q hI9 (b01 _) (wl_isInked X _ _ _ _ _ _ _ _ ((pb_isInked X _ _ _ _ _ _ _ _ h.hR.1 h.hR.2.1 h.hR.2.2 h.hw.1 h.hw.2.1 h.hw.2.2 g1.1.2 g1.2.2 (by omega) (by omega)).mono (fun _ _ q => q.pz)) (fun z _ _ hp => by rw [hp.1]; exact b01 _)) (fun I1 h1 => rb_isInked X _ _ _ _ _ _ _ _ ((up2_row _ _ _ _ (by decide)).trans h.hg) h.hw.1 h.hw.2.1 h.hw.2.2 g1.1.2 g1.2.2 (by omega) (by omega))
theorem tw_measure (X : AX) (I J : Nat → Nat → Int) (cc ss : Nat) (a1 a2 a3 : Int) (hI : INV I J) : Two X k_L_measure k_X9_measure (0, [some (vr 0), some (vi a1), some (vi a2), some (vi a3), some (vr 145), none], []) (0, [some (vr 135), some (vi a1), some (vi a2), some (vi a3)], []) (fun _ => True) I J cc ss := by
  have hI9 := hI
  obtain ⟨g, hs, m, tx, fl, n9, e9, D, h⟩ := hI
  have hw1 := h.hw.1
  have hw2 := h.hw.2.1
  have hw3 := h.hw.2.2
  have hw4 := hw1.1
  have hw5 := hw1.2.1
  have hw6 := hw2.1
  have hw7 := hw2.2.1
  have hw8 := hw3.1
  have hw9 := hw3.2.1
  by_cases g1 : (0 ≤ a1 ∧ a1 < g 308) ∧ (0 ≤ a2 ∧ a2 < g 0)
  rotate_left
  · exact two_x 1 (by decide) (wx_measure_2 X _ _ _ _ _ _ _ (pb_measure_x X _ _ _ _ _ _ _ h.hR.1 h.hR.2.1 h.hR.2.2 h.hw.1 h.hw.2.1 h.hw.2.2 g1)) (rb_measure_x X _ _ _ _ _ _ _ h.hg h.hw.1 h.hw.2.1 h.hw.2.2 g1) hI9
  obtain ⟨k, rfl⟩ : ∃ k : Nat, a1 = (k : Int) := ⟨a1.toNat, by omega⟩
  obtain ⟨l, rfl⟩ : ∃ k : Nat, a2 = (k : Int) := ⟨a2.toNat, by omega⟩
  by_cases g2 : 0 ≤ a3 ∧ a3 ≤ 7
  rotate_left
  · exact two_x 2 (by decide) (wx_measure_1 X _ _ _ _ _ _ _ (pb_measure_y X _ _ _ _ _ _ _ h.hR.1 h.hR.2.1 h.hR.2.2 h.hw.1 h.hw.2.1 h.hw.2.2 g1.1.2 g1.2.2 g2)) (rb_measure_y X _ _ _ _ _ _ _ h.hg h.hw.1 h.hw.2.1 h.hw.2.2 g1.1.2 g1.2.2 g2) hI9
  have hz4 := hw1.2.2.1 l g1.2.2
  obtain ⟨n, hn⟩ : ∃ n : Nat, g (2 * l + 1) = (n : Int) := ⟨(g (2 * l + 1)).toNat, by omega⟩
  rcases (show a3 = 0 ∨ a3 = 1 ∨ a3 = 2 ∨ a3 = 3 ∨ a3 = 4 ∨ a3 = 5 ∨ a3 = 6 ∨ a3 = 7 by omega) with rfl | rfl | rfl | rfl | rfl | rfl | rfl | rfl
  · exact two_q hI9 trivial (wl_measure X _ _ _ _ _ _ _ ((pb_measure_0 X _ _ _ _ _ _ h.hR.1 h.hR.2.1 h.hR.2.2 h.hw.1 h.hw.2.1 h.hw.2.2 g1.1.2 g1.2.2).mono (fun _ _ q => q.pz))) (fun I1 h1 => rb_measure_0 X _ _ _ _ _ _ ((up2_row _ _ _ _ (by decide)).trans h.hg) h.hw.1 h.hw.2.1 h.hw.2.2 g1.1.2 g1.2.2)
  · exact two_q hI9 trivial (wl_measure X _ _ _ _ _ _ _ ((pb_measure_1 X _ _ _ _ _ _ h.hR.1 h.hR.2.1 h.hR.2.2 h.hw.1 h.hw.2.1 h.hw.2.2 g1.1.2 g1.2.2).mono (fun _ _ q => q.pz))) (fun I1 h1 => rb_measure_1 X _ _ _ _ _ _ ((up2_row _ _ _ _ (by decide)).trans h.hg) h.hw.1 h.hw.2.1 h.hw.2.2 g1.1.2 g1.2.2)
  · exact two_q hI9 trivial (wl_measure X _ _ _ _ _ _ _ ((pb_measure_2 X _ _ _ _ _ _ _ h.hR.1 h.hR.2.1 h.hR.2.2 h.hw.1 h.hw.2.1 h.hw.2.2 g1.1.2 g1.2.2 hn).mono (fun _ _ q => q.pz))) (fun I1 h1 => rb_measure_2 X _ _ _ _ _ _ _ ((up2_row _ _ _ _ (by decide)).trans h.hg) h.hw.1 h.hw.2.1 h.hw.2.2 g1.1.2 g1.2.2 hn)
  · exact two_q hI9 trivial (wl_measure X _ _ _ _ _ _ _ ((pb_measure_3 X _ _ _ _ _ _ _ h.hR.1 h.hR.2.1 h.hR.2.2 h.hw.1 h.hw.2.1 h.hw.2.2 g1.1.2 g1.2.2 hn).mono (fun _ _ q => q.pz))) (fun I1 h1 => rb_measure_3 X _ _ _ _ _ _ _ ((up2_row _ _ _ _ (by decide)).trans h.hg) h.hw.1 h.hw.2.1 h.hw.2.2 g1.1.2 g1.2.2 hn)
  · exact two_q hI9 trivial (wl_measure X _ _ _ _ _ _ _ ((pb_measure_4 X _ _ _ _ _ _ h.hR.1 h.hR.2.1 h.hR.2.2 h.hw.1 h.hw.2.1 h.hw.2.2 g1.1.2 g1.2.2).mono (fun _ _ q => q.pz))) (fun I1 h1 => rb_measure_4 X _ _ _ _ _ _ ((up2_row _ _ _ _ (by decide)).trans h.hg) h.hw.1 h.hw.2.1 h.hw.2.2 g1.1.2 g1.2.2)
  · exact two_q hI9 trivial (wl_measure X _ _ _ _ _ _ _ ((pb_measure_5 X _ _ _ _ _ _ h.hR.1 h.hR.2.1 h.hR.2.2 h.hw.1 h.hw.2.1 h.hw.2.2 g1.1.2 g1.2.2).mono (fun _ _ q => q.pz))) (fun I1 h1 => rb_measure_5 X _ _ _ _ _ _ ((up2_row _ _ _ _ (by decide)).trans h.hg) h.hw.1 h.hw.2.1 h.hw.2.2 g1.1.2 g1.2.2)
  · exact two_q hI9 trivial (wl_measure X _ _ _ _ _ _ _ ((pb_measure_6 X _ _ _ _ _ _ h.hR.1 h.hR.2.1 h.hR.2.2 h.hw.1 h.hw.2.1 h.hw.2.2 g1.1.2 g1.2.2).mono (fun _ _ q => q.pz))) (fun I1 h1 => rb_measure_6 X _ _ _ _ _ _ ((up2_row _ _ _ _ (by decide)).trans h.hg) h.hw.1 h.hw.2.1 h.hw.2.2 g1.1.2 g1.2.2)
  · exact two_q hI9 trivial (wl_measure X _ _ _ _ _ _ _ ((pb_measure_7 X _ _ _ _ _ _ h.hR.1 h.hR.2.1 h.hR.2.2 h.hw.1 h.hw.2.1 h.hw.2.2 g1.1.2 g1.2.2).mono (fun _ _ q => q.pz))) (fun I1 h1 => rb_measure_7 X _ _ _ _ _ _ ((up2_row _ _ _ _ (by decide)).trans h.hg) h.hw.1 h.hw.2.1 h.hw.2.2 g1.1.2 g1.2.2)
theorem tw_isMirrored_0 (X : AX) (I J : Nat → Nat → Int) (cc ss : Nat) (a1 a2 : Int) (hI : INV I J) : Two X k_L_isMirrored k_X9_isMirrored (0, [some (vr 0), some (vi a1), some (vi a2), some (vi 0), some (vr 145), none], []) (0, [some (vr 135), some (vi a1), some (vi a2), some (vi 0), none, none, none], []) (fun r => r = 0 ∨ r = 1) I J cc ss := by
  have hI9 := hI
  obtain ⟨g, hs, m, tx, fl, n9, e9, D, h⟩ := hI
  have hw1 := h.hw.1
  have hw2 := h.hw.2.1
  have hw3 := h.hw.2.2
  have hw4 := hw1.1
  have hw5 := hw1.2.1
  have hw6 := hw2.1
  have hw7 := hw2.2.1
  have hw8 := hw3.1
  have hw9 := hw3.2.1
  by_cases g1 : (0 ≤ a1 ∧ a1 < g 308) ∧ (0 ≤ a2 ∧ a2 < g 0)
  rotate_left
  · exact two_x 1 (by decide) (wx_isMirrored_2 X _ _ _ _ _ _ _ (pb_isMirrored_x X _ _ _ _ _ _ _ h.hR.1 h.hR.2.1 h.hR.2.2 h.hw.1 h.hw.2.1 h.hw.2.2 g1)) (rb_isMirrored_x X _ _ _ _ _ _ _ h.hg h.hw.1 h.hw.2.1 h.hw.2.2 g1) hI9
  obtain ⟨k, rfl⟩ : ∃ k : Nat, a1 = (k : Int) := ⟨a1.toNat, by omega⟩
  obtain ⟨l, rfl⟩ : ∃ k : Nat, a2 = (k : Int) := ⟨a2.toNat, by omega⟩
  exact two_q hI9 (b01 _) (wl_isMirrored X _ _ _ _ _ _ _ ((pb_isMirrored_0 X _ _ _ _ _ _ h.hR.1 h.hR.2.1 h.hR.2.2 h.hw.1 h.hw.2.1 h.hw.2.2 g1.1.2 g1.2.2).mono (fun _ _ q => q.pz)) (fun z _ _ hp => by rw [hp.1]; exact b01 _)) (fun I1 h1 => rb_isMirrored_0 X _ _ _ _ _ _ ((up2_row _ _ _ _ (by decide)).trans h.hg) h.hw.1 h.hw.2.1 h.hw.2.2 g1.1.2 g1.2.2)
theorem tw_isMirrored_1 (X : AX) (I J : Nat → Nat → Int) (cc ss : Nat) (a1 a2 : Int) (hI : INV I J) : Two X k_L_isMirrored k_X9_isMirrored (0, [some (vr 0), some (vi a1), some (vi a2), some (vi 1), some (vr 145), none], []) (0, [some (vr 135), some (vi a1), some (vi a2), some (vi 1), none, none, none], []) (fun r => r = 0 ∨ r = 1) I J cc ss := by
  have hI9 := hI
  obtain ⟨g, hs, m, tx, fl, n9, e9, D, h⟩ := hI
  have hw1 := h.hw.1
  have hw2 := h.hw.2.1
  have hw3 := h.hw.2.2
  have hw4 := hw1.1
  have hw5 := hw1.2.1
  have hw6 := hw2.1
  have hw7 := hw2.2.1
  have hw8 := hw3.1
  have hw9 := hw3.2.1
  by_cases g1 : (0 ≤ a1 ∧ a1 < g 308) ∧ (0 ≤ a2 ∧ a2 < g 0)
  rotate_left
  · exact two_x 1 (by decide) (wx_isMirrored_2 X _ _ _ _ _ _ _ (pb_isMirrored_x X _ _ _ _ _ _ _ h.hR.1 h.hR.2.1 h.hR.2.2 h.hw.1 h.hw.2.1 h.hw.2.2 g1)) (rb_isMirrored_x X _ _ _ _ _ _ _ h.hg h.hw.1 h.hw.2.1 h.hw.2.2 g1) hI9
  obtain ⟨k, rfl⟩ : ∃ k : Nat, a1 = (k : Int) := ⟨a1.toNat, by omega⟩
  obtain ⟨l, rfl⟩ : ∃ k : Nat, a2 = (k : Int) := ⟨a2.toNat, by omega⟩
  exact two_q hI9 (b01 _) (wl_isMirrored X _ _ _ _ _ _ _ ((pb_isMirrored_1 X _ _ _ _ _ _ h.hR.1 h.hR.2.1 h.hR.2.2 h.hw.1 h.hw.2.1 h.hw.2.2 g1.1.2 g1.2.2).mono (fun _ _ q => q.pz)) (fun z _ _ hp => by rw [hp.1]; exact b01 _)) (fun I1 h1 => rb_isMirrored_1 X _ _ _ _ _ _ ((up2_row _ _ _ _ (by decide)).trans h.hg) h.hw.1 h.hw.2.1 h.hw.2.2 g1.1.2 g1.2.2)
theorem tw_difference (X : AX) (I J : Nat → Nat → Int) (cc ss : Nat) (a1 a2 a3 : Int) (hI : INV I J) : Two X k_L_difference k_X9_difference (0, [some (vr 0), some (vi a1), some (vi a2), some (vi a3), some (vr 145), none], []) (0, [some (vr 135), some (vi a1), some (vi a2), some (vi a3)], []) (fun _ => True) I J cc ss := by
  have hI9 := hI
  obtain ⟨g, hs, m, tx, fl, n9, e9, D, h⟩ := hI
  have hw1 := h.hw.1
  have hw2 := h.hw.2.1
  have hw3 := h.hw.2.2
  have hw4 := hw1.1
  have hw5 := hw1.2.1
  have hw6 := hw2.1
  have hw7 := hw2.2.1
  have hw8 := hw3.1
  have hw9 := hw3.2.1
  by_cases g1 : (0 ≤ a1 ∧ a1 < g 308) ∧ (0 ≤ a3 ∧ a3 < g 0)
  rotate_left
  · by_cases g2 : 0 ≤ a1 ∧ a1 < g 308
    · obtain ⟨k, rfl⟩ : ∃ k : Nat, a1 = (k : Int) := ⟨a1.toNat, by omega⟩
      by_cases g3 : 0 ≤ a2 ∧ a2 < g 308
      · obtain ⟨l, rfl⟩ : ∃ k : Nat, a2 = (k : Int) := ⟨a2.toNat, by omega⟩
        exact two_x 1 (by decide) (wx_difference_2 X _ _ _ _ _ _ _ (pb_difference_z X _ _ _ _ _ _ _ h.hR.1 h.hR.2.1 h.hR.2.2 h.hw.1 h.hw.2.1 h.hw.2.2 g2.2 g3.2 (fun q => g1 ⟨g2, q⟩))) (rb_difference_x X _ _ _ _ _ _ _ h.hg h.hw.1 h.hw.2.1 h.hw.2.2 g1) hI9
      · exact two_x 1 (by decide) (wx_difference_2 X _ _ _ _ _ _ _ (pb_difference_y X _ _ _ _ _ _ _ h.hR.1 h.hR.2.1 h.hR.2.2 h.hw.1 h.hw.2.1 h.hw.2.2 g2.2 g3)) (rb_difference_x X _ _ _ _ _ _ _ h.hg h.hw.1 h.hw.2.1 h.hw.2.2 g1) hI9
    · exact two_x 1 (by decide) (wx_difference_2 X _ _ _ _ _ _ _ (pb_difference_x X _ _ _ _ _ _ _ h.hR.1 h.hR.2.1 h.hR.2.2 h.hw.1 h.hw.2.1 h.hw.2.2 g2)) (rb_difference_x X _ _ _ _ _ _ _ h.hg h.hw.1 h.hw.2.1 h.hw.2.2 g1) hI9
  obtain ⟨k, rfl⟩ : ∃ k : Nat, a1 = (k : Int) := ⟨a1.toNat, by omega⟩
  obtain ⟨w, rfl⟩ : ∃ k : Nat, a3 = (k : Int) := ⟨a3.toNat, by omega⟩
  by_cases g2 : 0 ≤ a2 ∧ a2 < g 308
  rotate_left
  · exact two_x 1 (by decide) (wx_difference_2 X _ _ _ _ _ _ _ (pb_difference_y X _ _ _ _ _ _ _ h.hR.1 h.hR.2.1 h.hR.2.2 h.hw.1 h.hw.2.1 h.hw.2.2 g1.1.2 g2)) (rb_difference_y X _ _ _ _ _ _ _ h.hg h.hw.1 h.hw.2.1 h.hw.2.2 g1.1.2 g1.2.2 g2) hI9
  obtain ⟨l, rfl⟩ : ∃ k : Nat, a2 = (k : Int) := ⟨a2.toNat, by omega⟩
  exact two_q hI9 trivial (wl_difference X _ _ _ _ _ _ _ ((pb_difference X _ _ _ _ _ _ _ h.hR.1 h.hR.2.1 h.hR.2.2 h.hw.1 h.hw.2.1 h.hw.2.2 g1.1.2 g2.2 g1.2.2).mono (fun _ _ q => q.pz))) (fun I1 h1 => rb_difference X _ _ _ _ _ _ _ ((up2_row _ _ _ _ (by decide)).trans h.hg) h.hw.1 h.hw.2.1 h.hw.2.2 g1.1.2 g2.2 g1.2.2)
theorem tw_alone (X : AX) (I J : Nat → Nat → Int) (cc ss : Nat) (a1 a2 a3 : Int) (hI : INV I J) : Two X k_L_alone k_X9_alone (0, [some (vr 0), some (vi a1), some (vi a2), some (vi a3), some (vr 145), none], []) (0, [some (vr 135), some (vi a1), some (vi a2), some (vi a3)], []) (fun _ => True) I J cc ss := by
  have hI9 := hI
  obtain ⟨g, hs, m, tx, fl, n9, e9, D, h⟩ := hI
  have hw1 := h.hw.1
  have hw2 := h.hw.2.1
  have hw3 := h.hw.2.2
  have hw4 := hw1.1
  have hw5 := hw1.2.1
  have hw6 := hw2.1
  have hw7 := hw2.2.1
  have hw8 := hw3.1
  have hw9 := hw3.2.1
  by_cases g1 : 0 ≤ a1 ∧ a1 < g 308
  rotate_left
  · exact two_x 1 (by decide) (wx_alone_2 X _ _ _ _ _ _ _ (pb_alone_x X _ _ _ _ _ _ _ h.hR.1 h.hR.2.1 h.hR.2.2 h.hw.1 h.hw.2.1 h.hw.2.2 (fun q => g1 ⟨q.1, q.2.1⟩))) (rb_alone_x X _ _ _ _ _ _ _ h.hg h.hw.1 h.hw.2.1 h.hw.2.2 g1) hI9
  obtain ⟨k, rfl⟩ : ∃ k : Nat, a1 = (k : Int) := ⟨a1.toNat, by omega⟩
  by_cases g2 : 0 ≤ a2 ∧ a2 < g (19 * k + 309)
  rotate_left
  · exact two_x 1 (by decide) (wx_alone_2 X _ _ _ _ _ _ _ (pb_alone_x X _ _ _ _ _ _ _ h.hR.1 h.hR.2.1 h.hR.2.2 h.hw.1 h.hw.2.1 h.hw.2.2 (by intro q; have q2 := q.2.2.2; rw [Int.toNat_natCast] at q2; omega))) (rb_alone_y X _ _ _ _ _ _ _ h.hg h.hw.1 h.hw.2.1 h.hw.2.2 g1.2 g2) hI9
  obtain ⟨l, rfl⟩ : ∃ k : Nat, a2 = (k : Int) := ⟨a2.toNat, by omega⟩
  by_cases g3 : 0 ≤ a3 ∧ a3 < g 0
  rotate_left
  · exact two_x 1 (by decide) (wx_alone_2 X _ _ _ _ _ _ _ (pb_alone_y X _ _ _ _ _ _ _ h.hR.1 h.hR.2.1 h.hR.2.2 h.hw.1 h.hw.2.1 h.hw.2.2 g1.2 g2.2 g3)) (rb_alone_z X _ _ _ _ _ _ _ h.hg h.hw.1 h.hw.2.1 h.hw.2.2 g1.2 g2.2 g3) hI9
  obtain ⟨w, rfl⟩ : ∃ k : Nat, a3 = (k : Int) := ⟨a3.toNat, by omega⟩
  exact two_q hI9 trivial (wl_alone X _ _ _ _ _ _ _ ((pb_alone X _ _ _ _ _ _ _ h.hR.1 h.hR.2.1 h.hR.2.2 h.hw.1 h.hw.2.1 h.hw.2.2 g1.2 g2.2 g3.2).mono (fun _ _ q => q.pz))) (fun I1 h1 => rb_alone X _ _ _ _ _ _ _ ((up2_row _ _ _ _ (by decide)).trans h.hg) h.hw.1 h.hw.2.1 h.hw.2.2 g1.2 g2.2 g3.2)
theorem tw_keepsTopology (X : AX) (I J : Nat → Nat → Int) (cc ss : Nat) (a1 : Int) (hI : INV I J) : Two X k_L_keepsTopology k_X9_keepsTopology (0, [some (vr 0), some (vi a1), some (vr 145), none], []) (0, [some (vr 135), some (vi a1), none], []) (fun r => r = 0 ∨ r = 1) I J cc ss := by
  have hI9 := hI
  obtain ⟨g, hs, m, tx, fl, n9, e9, D, h⟩ := hI
  have hw1 := h.hw.1
  have hw2 := h.hw.2.1
  have hw3 := h.hw.2.2
  have hw4 := hw1.1
  have hw5 := hw1.2.1
  have hw6 := hw2.1
  have hw7 := hw2.2.1
  have hw8 := hw3.1
  have hw9 := hw3.2.1
  by_cases g1 : 0 ≤ a1 ∧ a1 < g 308
  rotate_left
  · exact two_x 1 (by decide) (wx_keepsTopology_2 X _ _ _ _ _ (pb_keeps_x X _ _ _ _ _ h.hR.1 h.hR.2.1 h.hR.2.2 h.hw.1 h.hw.2.1 h.hw.2.2 g1)) (rb_keeps_x X _ _ _ _ _ h.hg h.hw.1 h.hw.2.1 h.hw.2.2 g1) hI9
  obtain ⟨k, rfl⟩ : ∃ k : Nat, a1 = (k : Int) := ⟨a1.toNat, by omega⟩
  by_cases g2 : 0 < g 0
  rotate_left
  · exact two_q hI9 (b01 _) (wl_keepsTopology X _ _ _ _ _ ((pb_keeps_0 X _ _ _ _ _ h.hR.1 h.hR.2.1 h.hR.2.2 h.hw.1 h.hw.2.1 h.hw.2.2 g1.2 (by omega)).mono (fun _ _ q => q.pz)) (fun z _ _ hp => by rw [hp.1]; exact b01 _)) (fun I1 h1 => rb_keeps X _ _ _ _ _ ((up2_row _ _ _ _ (by decide)).trans h.hg) h.hw.1 h.hw.2.1 h.hw.2.2 g1.2)
  exact two_q hI9 (b01 _) (wl_keepsTopology X _ _ _ _ _ ((pb_keeps X _ _ _ _ _ h.hR.1 h.hR.2.1 h.hR.2.2 h.hw.1 h.hw.2.1 h.hw.2.2 g1.2 g2).mono (fun _ _ q => q.pz)) (fun z _ _ hp => by rw [hp.1]; exact b01 _)) (fun I1 h1 => rb_keeps X _ _ _ _ _ ((up2_row _ _ _ _ (by decide)).trans h.hg) h.hw.1 h.hw.2.1 h.hw.2.2 g1.2)
theorem tw_smallest (X : AX) (I J : Nat → Nat → Int) (cc ss : Nat) (a1 : Int) (hI : INV I J) : Two X k_L_smallest k_X9_smallest (0, [some (vr 0), some (vi a1), some (vr 145), none], []) (0, [some (vr 135), some (vi a1), none, none], []) (fun _ => True) I J cc ss := by
  have hI9 := hI
  obtain ⟨g, hs, m, tx, fl, n9, e9, D, h⟩ := hI
  have hw1 := h.hw.1
  have hw2 := h.hw.2.1
  have hw3 := h.hw.2.2
  have hw4 := hw1.1
  have hw5 := hw1.2.1
  have hw6 := hw2.1
  have hw7 := hw2.2.1
  have hw8 := hw3.1
  have hw9 := hw3.2.1
  by_cases g1 : 0 ≤ a1 ∧ a1 < g 308
  rotate_left
  · exact two_x 1 (by decide) (wx_smallest_2 X _ _ _ _ _ (pb_smallest_x X _ _ _ _ _ h.hR.1 h.hR.2.1 h.hR.2.2 h.hw.1 h.hw.2.1 h.hw.2.2 g1)) (rb_smallest_x X _ _ _ _ _ h.hg h.hw.1 h.hw.2.1 h.hw.2.2 g1) hI9
  obtain ⟨k, rfl⟩ : ∃ k : Nat, a1 = (k : Int) := ⟨a1.toNat, by omega⟩
  exact two_q hI9 trivial (wl_smallest X _ _ _ _ _ ((pb_smallest X _ _ _ _ _ h.hR.1 h.hR.2.1 h.hR.2.2 h.hw.1 h.hw.2.1 h.hw.2.2 g1.2).mono (fun _ _ q => q.pz))) (fun I1 h1 => rb_smallest X _ _ _ _ _ ((up2_row _ _ _ _ (by decide)).trans h.hg) h.hw.1 h.hw.2.1 h.hw.2.2 g1.2)
theorem tw_extreme_0 (X : AX) (I J : Nat → Nat → Int) (cc ss : Nat) (a1 : Int) (hI : INV I J) : Two X k_L_extreme k_X9_extreme (0, [some (vr 0), some (vi a1), some (vi 0), some (vr 145), none], []) (0, [some (vr 135), some (vi a1), some (vi 0), none, none, none, none], []) (fun _ => True) I J cc ss := by
  have hI9 := hI
  obtain ⟨g, hs, m, tx, fl, n9, e9, D, h⟩ := hI
  have hw1 := h.hw.1
  have hw2 := h.hw.2.1
  have hw3 := h.hw.2.2
  have hw4 := hw1.1
  have hw5 := hw1.2.1
  have hw6 := hw2.1
  have hw7 := hw2.2.1
  have hw8 := hw3.1
  have hw9 := hw3.2.1
  by_cases g1 : 0 ≤ a1 ∧ a1 < g 0
  rotate_left
  · exact two_x 1 (by decide) (wx_extreme_2 X _ _ _ _ _ _ (pb_extreme_x X _ _ _ _ _ _ h.hR.1 h.hR.2.1 h.hR.2.2 h.hw.1 h.hw.2.1 h.hw.2.2 g1)) (rb_extreme_x X _ _ _ _ _ _ h.hg h.hw.1 h.hw.2.1 h.hw.2.2 g1) hI9
  obtain ⟨k, rfl⟩ : ∃ k : Nat, a1 = (k : Int) := ⟨a1.toNat, by omega⟩
  by_cases g2 : g 308 ≠ 0
  rotate_left
  · exact two_x 2 (by decide) (wx_extreme_3 X _ _ _ _ _ _ (pb_extreme_y X _ _ _ _ _ _ h.hR.1 h.hR.2.1 h.hR.2.2 h.hw.1 h.hw.2.1 h.hw.2.2 g1.2 (by omega))) (rb_extreme_y X _ _ _ _ _ _ h.hg h.hw.1 h.hw.2.1 h.hw.2.2 g1.2 (by omega)) hI9
  exact two_q hI9 trivial (wl_extreme X _ _ _ _ _ _ ((pb_extreme_0 X _ _ _ _ _ h.hR.1 h.hR.2.1 h.hR.2.2 h.hw.1 h.hw.2.1 h.hw.2.2 g1.2 g2).mono (fun _ _ q => q.pz))) (fun I1 h1 => rb_extreme_0 X _ _ _ _ _ ((up2_row _ _ _ _ (by decide)).trans h.hg) h.hw.1 h.hw.2.1 h.hw.2.2 g1.2 g2)
theorem tw_extreme_1 (X : AX) (I J : Nat → Nat → Int) (cc ss : Nat) (a1 : Int) (hI : INV I J) : Two X k_L_extreme k_X9_extreme (0, [some (vr 0), some (vi a1), some (vi 1), some (vr 145), none], []) (0, [some (vr 135), some (vi a1), some (vi 1), none, none, none, none], []) (fun _ => True) I J cc ss := by
  have hI9 := hI
  obtain ⟨g, hs, m, tx, fl, n9, e9, D, h⟩ := hI
  have hw1 := h.hw.1
  have hw2 := h.hw.2.1
  have hw3 := h.hw.2.2
  have hw4 := hw1.1
  have hw5 := hw1.2.1
  have hw6 := hw2.1
  have hw7 := hw2.2.1
  have hw8 := hw3.1
  have hw9 := hw3.2.1
  by_cases g1 : 0 ≤ a1 ∧ a1 < g 0
  rotate_left
  · exact two_x 1 (by decide) (wx_extreme_2 X _ _ _ _ _ _ (pb_extreme_x X _ _ _ _ _ _ h.hR.1 h.hR.2.1 h.hR.2.2 h.hw.1 h.hw.2.1 h.hw.2.2 g1)) (rb_extreme_x X _ _ _ _ _ _ h.hg h.hw.1 h.hw.2.1 h.hw.2.2 g1) hI9
  obtain ⟨k, rfl⟩ : ∃ k : Nat, a1 = (k : Int) := ⟨a1.toNat, by omega⟩
  by_cases g2 : g 308 ≠ 0
  rotate_left
  · exact two_x 2 (by decide) (wx_extreme_3 X _ _ _ _ _ _ (pb_extreme_y X _ _ _ _ _ _ h.hR.1 h.hR.2.1 h.hR.2.2 h.hw.1 h.hw.2.1 h.hw.2.2 g1.2 (by omega))) (rb_extreme_y X _ _ _ _ _ _ h.hg h.hw.1 h.hw.2.1 h.hw.2.2 g1.2 (by omega)) hI9
  exact two_q hI9 trivial (wl_extreme X _ _ _ _ _ _ ((pb_extreme_1 X _ _ _ _ _ h.hR.1 h.hR.2.1 h.hR.2.2 h.hw.1 h.hw.2.1 h.hw.2.2 g1.2 g2).mono (fun _ _ q => q.pz))) (fun I1 h1 => rb_extreme_1 X _ _ _ _ _ ((up2_row _ _ _ _ (by decide)).trans h.hg) h.hw.1 h.hw.2.1 h.hw.2.2 g1.2 g2)
theorem tw_bestExtra (X : AX) (I J : Nat → Nat → Int) (cc ss : Nat) (a1 : Int) (hI : INV I J) : Two X k_L_bestExtra k_X9_bestExtra (0, [some (vr 0), some (vi a1), some (vr 145), none], []) (0, [some (vr 135), some (vi a1), none, none, none, none, none, none, none], []) (fun _ => True) I J cc ss := by
  have hI9 := hI
  obtain ⟨g, hs, m, tx, fl, n9, e9, D, h⟩ := hI
  have hw1 := h.hw.1
  have hw2 := h.hw.2.1
  have hw3 := h.hw.2.2
  have hw4 := hw1.1
  have hw5 := hw1.2.1
  have hw6 := hw2.1
  have hw7 := hw2.2.1
  have hw8 := hw3.1
  have hw9 := hw3.2.1
  by_cases g1 : 0 ≤ a1 ∧ a1 < g 0
  rotate_left
  · exact two_x 1 (by decide) (wx_bestExtra_2 X _ _ _ _ _ (pb_best_x X _ _ _ _ _ h.hR.1 h.hR.2.1 h.hR.2.2 h.hw.1 h.hw.2.1 h.hw.2.2 g1)) (rb_best_x X _ _ _ _ _ h.hg h.hw.1 h.hw.2.1 h.hw.2.2 g1) hI9
  obtain ⟨k, rfl⟩ : ∃ k : Nat, a1 = (k : Int) := ⟨a1.toNat, by omega⟩
  by_cases g2 : g 308 ≠ 0
  rotate_left
  · exact two_x 2 (by decide) (wx_bestExtra_3 X _ _ _ _ _ (pb_best_y X _ _ _ _ _ h.hR.1 h.hR.2.1 h.hR.2.2 h.hw.1 h.hw.2.1 h.hw.2.2 g1.2 (by omega))) (rb_best_y X _ _ _ _ _ h.hg h.hw.1 h.hw.2.1 h.hw.2.2 g1.2 (by omega)) hI9
  obtain ⟨l, hl⟩ : ∃ l : Nat, g 0 = (l : Int) + 1 := ⟨(g 0).toNat - 1, by omega⟩
  exact two_q hI9 trivial (wl_bestExtra X _ _ _ _ _ ((pb_best X _ _ _ _ _ _ h.hR.1 h.hR.2.1 h.hR.2.2 h.hw.1 h.hw.2.1 h.hw.2.2 g1.2 hl g2).mono (fun _ _ q => q.pz))) (fun I1 h1 => rb_best X _ _ _ _ _ _ ((up2_row _ _ _ _ (by decide)).trans h.hg) h.hw.1 h.hw.2.1 h.hw.2.2 g1.2 hl g2)
theorem tw_indifferent (X : AX) (I J : Nat → Nat → Int) (cc ss : Nat) (a1 a2 : Int) (hI : INV I J) : Two X k_L_indifferent k_X9_indifferent (0, [some (vr 0), some (vi a1), some (vi a2), some (vr 145), none], []) (0, [some (vr 135), some (vi a1), some (vi a2), none, none], []) (fun _ => True) I J cc ss := by
  have hI9 := hI
  obtain ⟨g, hs, m, tx, fl, n9, e9, D, h⟩ := hI
  have hw1 := h.hw.1
  have hw2 := h.hw.2.1
  have hw3 := h.hw.2.2
  have hw4 := hw1.1
  have hw5 := hw1.2.1
  have hw6 := hw2.1
  have hw7 := hw2.2.1
  have hw8 := hw3.1
  have hw9 := hw3.2.1
  by_cases g1 : 0 ≤ a1 ∧ a1 < g 11
  rotate_left
  · exact two_x 1 (by decide) (wx_indifferent_2 X _ _ _ _ _ _ (pb_indifferent_x X _ _ _ _ _ _ h.hR.1 h.hR.2.1 h.hR.2.2 h.hw.1 h.hw.2.1 h.hw.2.2 g1)) (rb_indifferent_x X _ _ _ _ _ _ h.hg h.hw.1 h.hw.2.1 h.hw.2.2 g1) hI9
  obtain ⟨k, rfl⟩ : ∃ k : Nat, a1 = (k : Int) := ⟨a1.toNat, by omega⟩
  by_cases g2 : 0 ≤ a2 ∧ a2 < g 0
  rotate_left
  · exact two_x 1 (by decide) (wx_indifferent_2 X _ _ _ _ _ _ (pb_indifferent_y X _ _ _ _ _ _ h.hR.1 h.hR.2.1 h.hR.2.2 h.hw.1 h.hw.2.1 h.hw.2.2 g1.2 g2)) (rb_indifferent_y X _ _ _ _ _ _ h.hg h.hw.1 h.hw.2.1 h.hw.2.2 g1.2 g2) hI9
  obtain ⟨l, rfl⟩ : ∃ k : Nat, a2 = (k : Int) := ⟨a2.toNat, by omega⟩
  exact two_q hI9 trivial (wl_indifferent X _ _ _ _ _ _ ((pb_indifferent X _ _ _ _ _ _ h.hR.1 h.hR.2.1 h.hR.2.2 h.hw.1 h.hw.2.1 h.hw.2.2 g1.2 g2.2).mono (fun _ _ q => q.pz))) (fun I1 h1 => rb_indifferent X _ _ _ _ _ _ ((up2_row _ _ _ _ (by decide)).trans h.hg) h.hw.1 h.hw.2.1 h.hw.2.2 g1.2 g2.2)
