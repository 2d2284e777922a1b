/-! UNDO, APPEND, LOAD, WRITE on both sides (printed by gen/g98n.py) -/
theorem SetR.eqv {I J I' J' : F2} {g g' : F1} (h : SetR I J 1 g) (hw : WF g) (e : ∀ k, k < 477 → g' k = g k) (c : ∀ a, a < 25 → I' a = I a ∧ J' a = J a) : SetR I' J' 1 g' :=
  ⟨h.1.eqv hw.1 (fun k hk => e k (by omega)) (fun a h1 h2 => (c a (by omega)).1), h.2.1.eqv hw.2.1 (fun k hk => e k (by omega)) (fun a h1 h2 => c a (by omega)), h.2.2.eqv hw.2.2 (fun k hk => e k (by omega)) (fun a h1 h2 => c a (by omega))⟩
theorem WF.eqv {g g' : F1} (h : WF g) (e : ∀ k, k < 477 → g' k = g k) : WF g' := ⟨h.1.eqv (fun k hk => e k (by omega)), h.2.1.eqv (fun k h1 h2 => e k (by omega)), h.2.2.eqv (e 11 (by omega)) (fun k h1 h2 => e k (by omega))⟩
theorem IV.nx {I J : F2} {g : F1} {hs : Nat → F1} {m : Nat} {tx : F1} {fl n : Nat} {e : Int} {D : Nat → Nat → Bool} {I1 J1 I2 J2 : F2} (h : IV I J g hs m tx fl n e D) {z : Int} {G : F1} {hs' : Nat → F1} {m' : Nat} (hG : WF G) (ho : onlyC I I1 J J1) (hHn : Hist I1 J1 hs' m') (hRn : SetR I1 J1 1 G) (hN : onlyN I1 I2 (up2 J1 145 0 z) J2) (hk : ∀ k, k < 477 → J2 136 k = G k) (hM : MH J2 hs' m') (h3 : I2 135 3 = (m' : Int)) (h8 : m' ≤ 8) (hO : ∀ q, q < m' → WF (hs' q)) : IV I2 J2 (J2 136) hs' m' tx fl n e D := by
  have cI : ∀ a, a < 135 → I2 a = I1 a := fun a ha => hN.1 a (by omega)
  have cJ : ∀ a, a < 135 → J2 a = J1 a := fun a ha => (hN.2.2.2 a (by omega) (by omega)).trans (up2_row _ _ _ _ (by omega))
  have oI : ∀ a, a = 0 ∨ (114 ≤ a ∧ a < 126) ∨ 111 ≤ a → a ≠ 135 → I2 a = I a := fun a ha h1 => (hN.1 a h1).trans (ho a ha).1
  have o5 : ∀ f, f ≠ 3 → f ≠ 4 → I2 135 f = I 135 f := fun f h1 h2 => (hN.2.1 f h1 h2).trans (congrFun (ho 135 (by omega)).1 f)
  refine ⟨rfl, hRn.eqv hG hk (fun a ha => ⟨cI a (by omega), cJ a (by omega)⟩), hG.eqv hk, hHn.cell (fun c h1 h2 => ⟨cI c (by omega), cJ c (by omega)⟩), hM, h3, h8, hO, ⟨(congrFun (oI 118 (by omega) (by omega)) 0).trans h.hD.1, (congrFun (oI 122 (by omega) (by omega)) 0).trans h.hD.2⟩, h.hX.cell (oI 112 (by omega) (by omega)) (oI 113 (by omega) (by omega)), ⟨(o5 6 (by omega) (by omega)).trans h.hY.1, h.hY.2.1, fun k hk => by rw [oI 139 (by omega) (by omega)]; exact h.hY.2.2 k hk⟩, ?_, ?_, h.hn, (o5 22 (by omega) (by omega)).trans h.hV, fun x hx => by rw [oI 144 (by omega) (by omega)]; exact h.hE x hx⟩
  · rw [oI 0 (by omega) (by omega), o5 13 (by omega) (by omega)]; exact h.h9
  · have hd := h.hW
    unfold DR at hd ⊢
    rw [oI 130 (by omega) (by omega), oI (130 + 1) (by omega) (by omega)]; exact hd
theorem tw_undo (X : AX) (I J : Nat → Nat → Int) (cc ss : Nat) (hI : INV I J) : Two X k_L_undo k_X9_undo (0, [some (vr 0), some (vr 145), none], []) (0, [some (vr 135), none], []) (fun _ => True) I J cc ss := by
  have hI9 := hI
  obtain ⟨g, hs, m, tx, fl, n9, e9, D, h⟩ := hI
  have hw1 := h.hw.1
  have hw2 := h.hw.2.1
  have hw3 := h.hw.2.2
  have hw4 := hw1.1
  have hw5 := hw1.2.1
  have hw6 := hw2.1
  have hw7 := hw2.2.1
  have hw8 := hw3.1
  have hw9 := hw3.2.1
  by_cases g1 : 0 < m
  rotate_left
  · exact two_x 1 (by decide) (wx_undo_0 X _ _ _ _ (pb_undo_x X _ _ _ _ h.hH (by omega))) (rb_undo_x X _ _ _ _ h.h3 (by omega)) hI9
  have hh8 := h.h8
  have hb := h.hO (m - 1) (by omega)
  refine two_ok (wl_undo X _ _ _ _ ((pb_undo X _ _ _ _ h.hH h.hR h.hw g1 hb).mono (fun _ _ q => q.pz))) (fun z I1 J1 hp => ?_)
  obtain ⟨rfl, ho, hHn, hRn⟩ := hp
  refine (rb_undo X _ _ _ _ (hs := hs) ((congrFun (ho 135 (by omega)).1 3).trans h.h3) h.h8 (fun q k h1 h2 => by rw [up2_row _ _ _ _ (by decide), (ho 138 (by omega)).2]; exact h.hM q k h1 h2) g1).mono (fun o T q => ?_)
  obtain ⟨I2, J2, rfl, rfl, hN, h38, hm3, hk⟩ := q
  exact ⟨_, _, _, rfl, rfl, hN.2.2.1, ⟨(congrFun (hN.2.2.2 145 (by decide) (by decide)) 0).trans (up2_same _ _ _ _), trivial⟩, _, hs, m - 1, tx, fl, n9, e9, D, h.nx hb ho hHn hRn hN hk (fun q k h1 h2 => by rw [h38, up2_row _ _ _ _ (by decide), (ho 138 (by omega)).2]; exact h.hM q k (by omega) h2) hm3 (by omega) (fun q hq => h.hO q (by omega))⟩
theorem tw_append (X : AX) (I J : Nat → Nat → Int) (cc ss : Nat) (a1 a2 a3 a4 a5 : Int) (hI : INV I J) : Two X k_L_append k_X9_append (0, [some (vr 0), some (vi a1), some (vi a2), some (vi a3), some (vi a4), some (vi a5), some (vr 145), none], []) (0, [some (vr 135), some (vi a1), some (vi a2), some (vi a3), some (vi a4), some (vi a5), none, none], []) (fun _ => True) I J cc ss := by
  have hI9 := hI
  obtain ⟨g, hs, m, tx, fl, n9, e9, D, h⟩ := hI
  have hw1 := h.hw.1
  have hw2 := h.hw.2.1
  have hw3 := h.hw.2.2
  have hw4 := hw1.1
  have hw5 := hw1.2.1
  have hw6 := hw2.1
  have hw7 := hw2.2.1
  have hw8 := hw3.1
  have hw9 := hw3.2.1
  by_cases g1 : 4 * (fl : Int) + 20 ≤ 900
  rotate_left
  · exact two_x 1 (by decide) (wx_append_0 X _ _ _ _ _ _ _ _ _ (pb_append_x X _ _ _ _ _ _ _ _ _ h.hX g1)) (rb_append_x X _ _ _ _ (vv := fun j => [a1, a2, a3, a4, a5].getD j 0) h.hY g1) hI9
  refine two_ok (wl_append X _ _ _ _ _ _ _ _ _ ((pb_append X _ _ _ _ _ _ _ _ _ h.hX g1).mono (fun _ _ q => q.pz))) (fun z I1 J1 hp => ?_)
  obtain ⟨rfl, rfl, ho, hXn⟩ := hp
  have hYn : TXr I1 tx fl := ⟨(congrFun (ho 135 (by decide) (by decide)) 6).trans h.hY.1, h.hY.2.1, fun k hk => by rw [ho 139 (by decide) (by decide)]; exact h.hY.2.2 k hk⟩
  refine Ev.mono (rb_append X _ _ _ _ (vv := fun j => [a1, a2, a3, a4, a5].getD j 0) hYn g1) (fun o T q => ?_)
  obtain ⟨I2, J2, rfl, rfl, rfl, hA, hB, hY2⟩ := q
  have oI : ∀ a, a ≠ 112 → a ≠ 113 → a ≠ 135 → a ≠ 139 → I2 a = I a := fun a h1 h2 h3 h4 => (hA a h3 h4).trans ((up2_row _ _ _ _ h3).trans (ho a h1 h2))
  have o5 : ∀ f, f ≠ 6 → f ≠ 4 → I2 135 f = I 135 f := fun f h1 h2 => (hB f h1).trans ((up2_ne2 _ _ _ _ h2).trans (congrFun (ho 135 (by decide) (by decide)) f))
  have hX2 : TXc I2 (ap5 tx fl (fun j => [a1, a2, a3, a4, a5].getD j 0)) (fl + 5) := TXc.cell hXn ((hA 112 (by decide) (by decide)).trans (up2_row _ _ _ _ (by decide))) ((hA 113 (by decide) (by decide)).trans (up2_row _ _ _ _ (by decide)))
  refine ⟨_, _, _, rfl, rfl, (hB 4 (by decide)).trans (up2_same _ _ _ _), ⟨up2_same _ _ _ _, trivial⟩, g, hs, m, _, fl + 5, n9, e9, D, (up2_row _ _ _ _ (by decide)).trans h.hg, h.hR.cell (fun c h1 h2 => ⟨oI c (by omega) (by omega) (by omega) (by omega), up2_row _ _ _ _ (by omega)⟩), h.hw, h.hH.cell (fun c h1 h2 => ⟨oI c (by omega) (by omega) (by omega) (by omega), up2_row _ _ _ _ (by omega)⟩), (fun q k h1 h2 => by rw [up2_row _ _ _ _ (by decide)]; exact h.hM q k h1 h2), (o5 3 (by decide) (by decide)).trans h.h3, h.h8, h.hO, ⟨(congrFun (oI 118 (by decide) (by decide) (by decide) (by decide)) 0).trans h.hD.1, (congrFun (oI 122 (by decide) (by decide) (by decide) (by decide)) 0).trans h.hD.2⟩, hX2, hY2, ?_, ?_, h.hn, (o5 22 (by decide) (by decide)).trans h.hV, fun x hx => by rw [oI 144 (by decide) (by decide) (by decide) (by decide)]; exact h.hE x hx⟩
  · rw [oI 0 (by decide) (by decide) (by decide) (by decide), o5 13 (by decide) (by decide)]; exact h.h9
  · have hd := h.hW
    unfold DR at hd ⊢
    rw [oI 130 (by decide) (by decide) (by decide) (by decide), oI (130 + 1) (by decide) (by decide) (by decide) (by decide)]; exact hd
theorem tw_load (X : AX) (I J : Nat → Nat → Int) (cc ss : Nat) (a1 : Int) (hI : INV I J) : Two X k_L_load k_X9_load (0, [some (vr 0), some (vi a1), some (vr 145), none], []) (0, [some (vr 135), some (vi a1), none], []) (fun _ => True) I J cc ss := by
  have hI9 := hI
  obtain ⟨g, hs, m, tx, fl, n9, e9, D, h⟩ := hI
  have hw1 := h.hw.1
  have hw2 := h.hw.2.1
  have hw3 := h.hw.2.2
  have hw4 := hw1.1
  have hw5 := hw1.2.1
  have hw6 := hw2.1
  have hw7 := hw2.2.1
  have hw8 := hw3.1
  have hw9 := hw3.2.1
  by_cases g1 : 0 ≤ a1 ∧ a1 ≤ 4 * (fl : Int)
  rotate_left
  · exact two_x 1 (by decide) (wx_load_1 X _ _ _ _ _ (pb_load_x X _ _ _ _ _ h.hX g1)) (rb_load_x X _ _ _ _ _ h.hY g1) hI9
  obtain ⟨k, rfl⟩ : ∃ k : Nat, a1 = (k : Int) := ⟨a1.toNat, by omega⟩
  refine two_ok (wl_load X _ _ _ _ _ (pb_load X _ _ _ _ k h.hX (by omega) h.hD (d := zeF1 (J 137)) (zeF1_wf _) (zeF1_0 (by decide)) (zeF1_0 (by decide)) (zeF1_0 (by decide)) h.hH h.hR h.hw)) (fun z I1 J1 hp => ?_)
  obtain ⟨ha, hb, hc, hd, he, hz⟩ := hp
  have oC : ∀ c, 126 ≤ c → I1 c = I c ∧ J1 c = J c := fun c h1 => ha c (by omega) (by omega) (by omega) (by omega) (by omega)
  have hYn : TXr I1 tx fl := ⟨(congrFun (oC 135 (by omega)).1 6).trans h.hY.1, h.hY.2.1, fun k hk => by rw [(oC 139 (by omega)).1]; exact h.hY.2.2 k hk⟩
  have e37 : (up2 J1 145 0 z) 137 = J 137 := (up2_row _ _ _ _ (by decide)).trans (oC 137 (by omega)).2
  refine (rb_load X _ _ _ _ k hYn (by omega) ((up2_row _ _ _ _ (by decide)).trans ((oC 136 (by omega)).2.trans h.hg)) ((congrFun (oC 135 (by omega)).1 3).trans h.h3) h.h8 (hs := hs) (fun q k h1 h2 => by rw [up2_row _ _ _ _ (by decide), (oC 138 (by omega)).2]; exact h.hM q k h1 h2)).mono (fun o T q => ?_)
  obtain ⟨r, I2, J2, rfl, rfl, i1, i2, i3, i4, i5, hr⟩ := q
  rw [e37] at hr
  have oI : ∀ a, 126 ≤ a → a ≠ 135 → I2 a = I a := fun a h1 h2 => (i1 a h2).trans (oC a h1).1
  have cI : ∀ a, a < 135 → I2 a = I1 a := fun a h1 => i1 a (by omega)
  have cJ : ∀ a, a < 135 → J2 a = J1 a := fun a h1 => (i5 a (by omega) (by omega) (by omega) (by omega)).trans (up2_row _ _ _ _ (by omega))
  have hDn : WD I2 114 := ⟨(congrFun (cI 118 (by omega)) 0).trans he.1, (congrFun (cI 122 (by omega)) 0).trans he.2⟩
  have hXn : TXc I2 tx 0 := ⟨(congrFun (cI 112 (by omega)) 1).trans hd, Nat.zero_le _, fun k hk => absurd hk (by omega)⟩
  have hY2 : TXr I2 tx 0 := ⟨i4, Nat.zero_le _, fun k hk => absurd hk (by omega)⟩
  have hWn : DR I2 130 (n9 : Int) e9 D := by
    have hd := h.hW
    unfold DR at hd ⊢
    rw [oI 130 (by omega) (by omega), oI (130 + 1) (by omega) (by omega)]; exact hd
  have hVn : I2 135 22 = ((n9 * (n9 + 1) : Nat) : Int) := (i2 22 (by omega)).trans ((congrFun (oC 135 (by omega)).1 22).trans h.hV)
  have hEn : ∀ x, x < n9 * (n9 + 1) → I2 144 x = wbF D n9 x := fun x hx => by rw [oI 144 (by omega) (by omega)]; exact h.hE x hx
  have e45 : J2 145 0 = z := (congrFun (i5 145 (by omega) (by omega) (by omega) (by omega)) 0).trans (up2_same _ _ _ _)
  have c9 : I2 0 7 = I1 0 7 := congrFun (cI 0 (by omega)) 7
  rcases hps : pSet true tx k 900 (zeF1 (J 137)) 0 with d1 | ⟨c1, s1⟩ <;> rw [hps] at hz hr
  · obtain ⟨rfl, z2, z3, z4, z5⟩ := hz
    obtain ⟨rfl, r2, r3, r4, r5⟩ := hr
    have hk : ∀ k, k < 477 → J2 136 k = d1 k := fun k hk => (r5 k).trans (if_pos hk)
    exact ⟨_, _, _, rfl, rfl, i3, ⟨e45, trivial⟩, J2 136, remH hs m g, remM m, tx, 0, n9, e9, D, rfl, z4.eqv z5 hk (fun a ha => ⟨cI a (by omega), cJ a (by omega)⟩), z5.eqv hk, z3.cell (fun c h1 h2 => ⟨cI c (by omega), cJ c (by omega)⟩), r4, r3, remM_8 h.h8, rem_wf h.hO h.hw h.h8, hDn, hXn, hY2, c9.trans (z2.trans r2.symm), hWn, h.hn, hVn, hEn⟩
  · obtain ⟨rfl, z2, z3, z4⟩ := hz
    obtain ⟨rfl, r2, r3, r4, r5⟩ := hr
    exact ⟨_, _, _, rfl, rfl, i3, ⟨e45, trivial⟩, g, hs, m, tx, 0, n9, e9, D, r5.trans ((up2_row _ _ _ _ (by decide)).trans ((oC 136 (by omega)).2.trans h.hg)), z4.cell (fun c h1 h2 => ⟨cI c (by omega), cJ c (by omega)⟩), h.hw, z3.cell (fun c h1 h2 => ⟨cI c (by omega), cJ c (by omega)⟩), (fun q k h1 h2 => by rw [r4, up2_row _ _ _ _ (by decide), (oC 138 (by omega)).2]; exact h.hM q k h1 h2), r3.trans ((congrFun (oC 135 (by omega)).1 3).trans h.h3), h.h8, h.hO, hDn, hXn, hY2, c9.trans (z2.trans r2.symm), hWn, h.hn, hVn, hEn⟩
theorem tw_writeIcon (X : AX) (I J : Nat → Nat → Int) (cc ss : Nat) (a1 a2 : Int) (hI : INV I J) : Two X k_L_writeIcon k_X9_writeIcon (0, [some (vr 0), some (vi a1), some (vi a2), some (vr 145), none], []) (0, [some (vr 135), some (vi a1), some (vi a2), none, none], []) (fun _ => True) I J cc ss := by
  have hI9 := hI
  obtain ⟨g, hs, m, tx, fl, n9, e9, D, h⟩ := hI
  have hw1 := h.hw.1
  have hw2 := h.hw.2.1
  have hw3 := h.hw.2.2
  have hw4 := hw1.1
  have hw5 := hw1.2.1
  have hw6 := hw2.1
  have hw7 := hw2.2.1
  have hw8 := hw3.1
  have hw9 := hw3.2.1
  by_cases g1 : (0 ≤ a1 ∧ a1 < g 308) ∧ (0 ≤ a2 ∧ a2 < g 0)
  rotate_left
  · exact two_x 1 (by decide) (wx_writeIcon_2 X _ _ _ _ _ _ (pb_write_x X _ _ _ _ _ _ h.hR.1 h.hR.2.1 h.hR.2.2 h.hw.1 h.hw.2.1 h.hw.2.2 g1)) (rb_write_x X _ _ _ _ _ _ h.hg h.hw.1 h.hw.2.1 h.hw.2.2 g1) hI9
  obtain ⟨k, rfl⟩ : ∃ k : Nat, a1 = (k : Int) := ⟨a1.toNat, by omega⟩
  obtain ⟨l, rfl⟩ : ∃ k : Nat, a2 = (k : Int) := ⟨a2.toNat, by omega⟩
  have hz4 := hw1.2.2.1 l g1.2.2
  obtain ⟨n, hn⟩ : ∃ n : Nat, g (2 * l + 1) = (n : Int) := ⟨(g (2 * l + 1)).toNat, by omega⟩
  refine two_ok (wl_writeIcon X _ _ _ _ _ _ ((pb_write X _ _ _ _ _ _ n h.hR.1 h.hR.2.1 h.hR.2.2 h.hw.1 h.hw.2.1 h.hw.2.2 g1.1.2 g1.2.2 hn).mono (fun _ _ q => q.pz))) (fun z I1 J1 hp => ?_)
  obtain ⟨rfl, rfl, ho, hDn⟩ := hp
  refine (rb_write X _ _ _ _ _ _ n ((up2_row _ _ _ _ (by decide)).trans h.hg) h.hw.1 h.hw.2.1 h.hw.2.2 g1.1.2 g1.2.2 hn).mono (fun o T q => ?_)
  obtain ⟨I2, J2, rfl, rfl, rfl, hA, hB, hWn⟩ := q
  have oI : ∀ a, a < 130 ∨ a = 139 → I2 a = I a := fun a h1 => (hA a (by omega) (by omega) (by omega) (by omega) (by omega) (by omega)).trans ((up2_row _ _ _ _ (by omega)).trans (ho a (by omega) (by omega)))
  have o1 : ∀ a, a < 135 → I2 a = I1 a := fun a h1 => (hA a (by omega) (by omega) (by omega) (by omega) (by omega) (by omega)).trans (up2_row _ _ _ _ (by omega))
  have o5 : ∀ f, f ≠ 4 → f ≠ 17 → f ≠ 20 → f ≠ 22 → I2 135 f = I 135 f := fun f h1 h2 h3 h4 => (hB f h2 h3 h4).trans ((up2_ne2 _ _ _ _ h1).trans (congrFun (ho 135 (by omega) (by omega)) f))
  refine ⟨_, _, _, rfl, rfl, (hB 4 (by decide) (by decide) (by decide)).trans (up2_same _ _ _ _), ⟨up2_same _ _ _ _, trivial⟩, g, hs, m, tx, fl, n, g (2 * l + 2), icF g k (n : Int) (g (2 * l + 2)), (up2_row _ _ _ _ (by decide)).trans h.hg, h.hR.cell (fun c h1 h2 => ⟨oI c (by omega), up2_row _ _ _ _ (by omega)⟩), h.hw, h.hH.cell (fun c h1 h2 => ⟨oI c (by omega), up2_row _ _ _ _ (by omega)⟩), (fun q k h1 h2 => by rw [up2_row _ _ _ _ (by decide)]; exact h.hM q k h1 h2), (o5 3 (by decide) (by decide) (by decide) (by decide)).trans h.h3, h.h8, h.hO, ⟨(congrFun (oI 118 (by omega)) 0).trans h.hD.1, (congrFun (oI 122 (by omega)) 0).trans h.hD.2⟩, h.hX.cell (oI 112 (by omega)) (oI 113 (by omega)), ⟨(o5 6 (by decide) (by decide) (by decide) (by decide)).trans h.hY.1, h.hY.2.1, fun k hk => by rw [oI 139 (by omega)]; exact h.hY.2.2 k hk⟩, ?_, ?_, by omega, hWn.1, hWn.2⟩
  · rw [oI 0 (by omega), o5 13 (by decide) (by decide) (by decide) (by decide)]; exact h.h9
  · unfold DR at hDn ⊢
    rw [o1 130 (by omega), o1 (130 + 1) (by omega)]; exact hDn
theorem tw_writtenByte (X : AX) (I J : Nat → Nat → Int) (cc ss : Nat) (a1 : Int) (hI : INV I J) : Two X k_L_writtenByte k_X9_writtenByte (0, [some (vr 0), some (vi a1), some (vr 145), none], []) (0, [some (vr 135), some (vi a1)], []) (fun _ => True) I J cc ss := by
  have hI9 := hI
  obtain ⟨g, hs, m, tx, fl, n9, e9, D, h⟩ := hI
  have hw1 := h.hw.1
  have hw2 := h.hw.2.1
  have hw3 := h.hw.2.2
  have hw4 := hw1.1
  have hw5 := hw1.2.1
  have hw6 := hw2.1
  have hw7 := hw2.2.1
  have hw8 := hw3.1
  have hw9 := hw3.2.1
  have hc : ((n9 * (n9 + 1) : Nat) : Int) = (n9 : Int) * ((n9 : Int) + 1) := by rw [Int.natCast_mul]; rfl
  have hn9 := h.hn
  have h56 : n9 * (n9 + 1) ≤ 1056 := show n9 * (n9 + 1) ≤ 32 * 33 from Nat.mul_le_mul hn9 (by omega)
  by_cases g1 : 0 ≤ a1 ∧ a1 ≤ ((n9 * (n9 + 1) : Nat) : Int) - 1
  rotate_left
  · exact two_x 1 (by decide) (wx_writtenByte_2 X _ _ _ _ _ (pb_written_x X _ _ _ _ _ h.hR.1 h.hR.2.1 h.hR.2.2 h.hw.1 h.hw.2.1 h.hw.2.2 n9 h.hW hn9 (by rw [← hc]; exact g1))) (rb_written_x X _ _ _ _ _ h.hV h.hE h56 g1) hI9
  obtain ⟨k, rfl⟩ : ∃ k : Nat, a1 = (k : Int) := ⟨a1.toNat, by omega⟩
  have hx : k < n9 * (n9 + 1) := by omega
  exact two_q hI9 trivial (wl_writtenByte X _ _ _ _ _ ((pb_written X _ _ _ _ k h.hR.1 h.hR.2.1 h.hR.2.2 h.hw.1 h.hw.2.1 h.hw.2.2 n9 h.hW hn9 (by omega)).mono (fun _ _ q => q.pz))) (fun I1 h1 => (rb_written X _ _ _ _ k (f := wbF D n9) (m := n9 * (n9 + 1)) ((congrFun (h1 135 (by omega)) 22).trans h.hV) (fun x hx => by rw [h1 144 (by omega)]; exact h.hE x hx) h56 hx).mono (fun o T q => by obtain ⟨rfl, rfl⟩ := q; exact ⟨_, _, rfl, rfl, rfl, scrM.refl _⟩))
