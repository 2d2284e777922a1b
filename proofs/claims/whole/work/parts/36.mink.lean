/-! INK, the reference (printed by gen/g36.py) -/
/-- the reference's drawing -/
def DM (I : F2) (D : Nat → Nat → Bool) : Prop := ∀ y x, y < 32 → x < 32 → I 140 (32 * y + x) = if D y x then 1 else 0
def onlyM (I I' : F2) : Prop := ∀ a, a ≠ 140 → I' a = I a
theorem onlyM.refl (I : F2) : onlyM I I := fun _ _ => rfl
theorem onlyM.trans {I I' I2 : F2} (h : onlyM I I') (h2 : onlyM I' I2) : onlyM I I2 := fun a h3 => (h2 a h3).trans (h a h3)
theorem DM.congr {I : F2} {D D' : Nat → Nat → Bool} (h : DM I D) (q : ∀ y x, D y x = D' y x) : DM I D' := fun y x h1 h2 => (h y x h1 h2).trans (by rw [q])
def ptB (c r P : Int) (y x : Nat) : Bool := decide ((x : Int) = c ∧ (y : Int) = r ∧ (x : Int) < P ∧ (y : Int) < P)
theorem DM.pt {I : F2} {D : Nat → Nat → Bool} {c r P : Int} (h : DM I D) (hP : P ≤ 32) (hc : 0 ≤ c ∧ c ≤ P - 1) (hr : 0 ≤ r ∧ r ≤ P - 1) : DM (up2 I 140 (32 * r + c).toNat 1) (fun y x => D y x || ptB c r P y x) := by
  intro y x hy hx
  by_cases e : (x : Int) = c ∧ (y : Int) = r
  · show _ = if (D y x || ptB c r P y x) = true then (1 : Int) else 0
    rw [show (32 * r + c).toNat = 32 * y + x by omega, up2_same, show ptB c r P y x = true from decide_eq_true (by omega), Bool.or_true]; rfl
  · show _ = if (D y x || ptB c r P y x) = true then (1 : Int) else 0
    rw [up2_ne2 _ _ _ _ (show 32 * y + x ≠ (32 * r + c).toNat by omega), h y x hy hx, show ptB c r P y x = false from decide_eq_false (by omega), Bool.or_false]
/-- the part of a bar or box that is inked when row and col are reached -/
def rgB (l t r b s P row col : Int) (y x : Nat) : Bool := decide ((((x : Int) - l < s ∨ r - x < s ∨ (y : Int) - t < s ∨ b - y < s) ∨ s = -1) ∧ l ≤ (x : Int) ∧ (x : Int) ≤ r ∧ t ≤ (y : Int) ∧ (y : Int) ≤ b ∧ ((y : Int) < row ∨ ((y : Int) = row ∧ (x : Int) < col)) ∧ (x : Int) < P ∧ (y : Int) < P)
def barB (l t r b s P : Int) (y x : Nat) : Bool := if s = -1 then areaB l t r b P y x else boxB l t r b s P y x
def sqB (c r s P i j : Int) (y x : Nat) : Bool := decide (c ≤ (x : Int) ∧ (x : Int) < c + s ∧ r ≤ (y : Int) ∧ (y : Int) < r + s ∧ ((x : Int) < c + i ∨ ((x : Int) = c + i ∧ (y : Int) < r + j)) ∧ (x : Int) < P ∧ (y : Int) < P)
theorem sp_inks (X : AX) (I J : Nat → Nat → Int) (cc ss : Nat) {D : Nat → Nat → Bool} {P : Int} (u v : Int) (hQ : 0 ≤ P ∧ P ≤ 32) (hW : I 135 17 = P) (hD : DM I D) (hu : -1000 ≤ u ∧ u ≤ 1000) (hv : -1000 ≤ v ∧ v ≤ 1000) : Ev X k_X9_inks (0, [some (vr 135), some (vi u), some (vi v)], []) (MS I J cc ss) (PV cc ss none (fun I' J' => J' = J ∧ onlyM I I' ∧ DM I' (fun y x => D y x || ptB u v P y x))) := by
  refine ev_n (fr' := (7, [some (vr 135), some (vi u), some (vi v)], [vi (I 135 17), vl 0, vl u])) (S' := MS I J cc ss) 5 rfl ?_
  refine ev_eqi (hW) ?_
  show Ev X k_X9_inks (7, [some (vr 135), some (vi u), some (vi v)], [vi P, vl 0, vl u]) (MS I J cc ss) _
  refine ev_n (fr' := (8, [some (vr 135), some (vi u), some (vi v)], [vi 1, vi P, vl 0, vl u])) (S' := MS I J cc ss) 1 rfl ?_
  refine ev_sub (z := P - 1) rfl (by omega) (by omega) (by omega) ?_
  show Ev X k_X9_inks (9, [some (vr 135), some (vi u), some (vi v)], [vi (P - 1), vl 0, vl u]) (MS I J cc ss) _
  refine ev_n (fr' := (10, [some (vr 135), some (vi u), some (vi v)], [vl (P - 1), vl 0, vl u])) (S' := MS I J cc ss) 1 rfl ?_
  refine ev_cv rfl rfl rfl ⟨Nat.le_of_ble_eq_true rfl, Nat.le_of_ble_eq_true rfl⟩ (sp_isIn X _ u 0 (P - 1) ) ?_
  show Ev X k_X9_inks (13, [some (vr 135), some (vi u), some (vi v)], [vi (if 0 ≤ u ∧ u ≤ P - 1 then 1 else 0)]) (MS I J cc ss) _
  refine ev_beq _ rfl (by decide) (fun (g1 : ¬ (0 ≤ u ∧ u ≤ P - 1)) => ?_) (fun (g1 : 0 ≤ u ∧ u ≤ P - 1) => ?_)
  · show Ev X k_X9_inks (44, [some (vr 135), some (vi u), some (vi v)], []) (MS I J cc ss) _
    refine ev_r rfl rfl rfl ?_
    exact ⟨_, _, rfl, rfl, rfl, onlyM.refl _, hD.congr (fun y x => by rw [show ptB u v P y x = false from decide_eq_false (by omega), Bool.or_false])⟩
  · show Ev X k_X9_inks (16, [some (vr 135), some (vi u), some (vi v)], []) (MS I J cc ss) _
    refine ev_n (fr' := (23, [some (vr 135), some (vi u), some (vi v)], [vi (I 135 17), vl 0, vl v])) (S' := MS I J cc ss) 5 rfl ?_
    refine ev_eqi (hW) ?_
    show Ev X k_X9_inks (23, [some (vr 135), some (vi u), some (vi v)], [vi P, vl 0, vl v]) (MS I J cc ss) _
    refine ev_n (fr' := (24, [some (vr 135), some (vi u), some (vi v)], [vi 1, vi P, vl 0, vl v])) (S' := MS I J cc ss) 1 rfl ?_
    refine ev_sub (z := P - 1) rfl (by omega) (by omega) (by omega) ?_
    show Ev X k_X9_inks (25, [some (vr 135), some (vi u), some (vi v)], [vi (P - 1), vl 0, vl v]) (MS I J cc ss) _
    refine ev_n (fr' := (26, [some (vr 135), some (vi u), some (vi v)], [vl (P - 1), vl 0, vl v])) (S' := MS I J cc ss) 1 rfl ?_
    refine ev_cv rfl rfl rfl ⟨Nat.le_of_ble_eq_true rfl, Nat.le_of_ble_eq_true rfl⟩ (sp_isIn X _ v 0 (P - 1) ) ?_
    show Ev X k_X9_inks (29, [some (vr 135), some (vi u), some (vi v)], [vi (if 0 ≤ v ∧ v ≤ P - 1 then 1 else 0)]) (MS I J cc ss) _
    refine ev_beq _ rfl (by decide) (fun (g2 : ¬ (0 ≤ v ∧ v ≤ P - 1)) => ?_) (fun (g2 : 0 ≤ v ∧ v ≤ P - 1) => ?_)
    · show Ev X k_X9_inks (44, [some (vr 135), some (vi u), some (vi v)], []) (MS I J cc ss) _
      refine ev_r rfl rfl rfl ?_
      exact ⟨_, _, rfl, rfl, rfl, onlyM.refl _, hD.congr (fun y x => by rw [show ptB u v P y x = false from decide_eq_false (by omega), Bool.or_false])⟩
    · show Ev X k_X9_inks (32, [some (vr 135), some (vi u), some (vi v)], []) (MS I J cc ss) _
      refine ev_n (fr' := (39, [some (vr 135), some (vi u), some (vi v)], [vi v, vi 32, vr 140])) (S' := MS I J cc ss) 4 rfl ?_
      refine ev_mul (z := 32 * v) rfl (by omega) (by omega) (by omega) ?_
      show Ev X k_X9_inks (40, [some (vr 135), some (vi u), some (vi v)], [vi (32 * v), vr 140]) (MS I J cc ss) _
      refine ev_n (fr' := (41, [some (vr 135), some (vi u), some (vi v)], [vi u, vi (32 * v), vr 140])) (S' := MS I J cc ss) 1 rfl ?_
      refine ev_add (z := 32 * v + u) rfl (by omega) (by omega) (by omega) ?_
      show Ev X k_X9_inks (42, [some (vr 135), some (vi u), some (vi v)], [vi (32 * v + u), vr 140]) (MS I J cc ss) _
      refine ev_n (fr' := (43, [some (vr 135), some (vi u), some (vi v)], [vi 1, vi (32 * v + u), vr 140])) (S' := MS I J cc ss) 1 rfl ?_
      refine ev_basN (j := (32 * v + u).toNat) rfl rfl (by omega) (by omega) (Or.inr rfl) ?_
      show Ev X k_X9_inks (44, [some (vr 135), some (vi u), some (vi v)], []) (MS (up2 I 140 ((32 * v + u).toNat) 1) J cc ss) _
      refine ev_r rfl rfl rfl ?_
      exact ⟨_, _, rfl, rfl, rfl, fun a ha => up2_row _ _ _ _ ha, hD.pt hQ.2 (by omega) (by omega)⟩
theorem li_bar (X : AX) (I J : Nat → Nat → Int) (cc ss : Nat) {Q : (Option AV ⊕ Nat) → AS → Prop} {D : Nat → Nat → Bool} {P : Int} (w1 w2 w3 w4 : Option AV) (l t r b s : Int) (row col : Int) (v12 : Option AV) (I0 : F2) (hQ : 0 ≤ P ∧ P ≤ 32) (hW : I 135 17 = P) (hl : -300 ≤ l ∧ l ≤ 300) (ht : -300 ≤ t ∧ t ≤ 300) (hr : -300 ≤ r ∧ r ≤ 300) (hb : -300 ≤ b ∧ b ≤ 300) (hs : -1 ≤ s ∧ s ≤ 300) (hrow : t ≤ row ∧ row ≤ b) (hc : l ≤ col ∧ (col = l ∨ col ≤ r + 1)) (hO : onlyM I0 I) (hD : DM I (fun y x => D y x || rgB l t r b s P row col y x)) (K : ∀ (I' : F2) (col : Int), col = (if r < l then l else r + 1) → ∀ v12, I' 135 17 = P → onlyM I0 I' → DM I' (fun y x => D y x || rgB l t r b s P row col y x) → Ev X k_X9_inksBar (175, [some (vr 135), w1, w2, w3, w4, some (vi s), some (vi l), some (vi t), some (vi r), some (vi b), some (vi row), some (vi col), v12], []) (MS I' J cc ss) Q) : Ev X k_X9_inksBar (96, [some (vr 135), w1, w2, w3, w4, some (vi s), some (vi l), some (vi t), some (vi r), some (vi b), some (vi row), some (vi col), v12], []) (MS I J cc ss) (Q) := by
  refine ev_n (fr' := (100, [some (vr 135), w1, w2, w3, w4, some (vi s), some (vi l), some (vi t), some (vi r), some (vi b), some (vi row), some (vi col), v12], [vi r, vi col])) (S' := MS I J cc ss) 2 rfl ?_
  refine ev_ic (c := .gt) (off := 75) rfl (by decide) (fun (g1 : r < col) => ?_) (fun (g1 : ¬ (r < col)) => ?_)
  · show Ev X k_X9_inksBar (175, [some (vr 135), w1, w2, w3, w4, some (vi s), some (vi l), some (vi t), some (vi r), some (vi b), some (vi row), some (vi col), v12], []) (MS I J cc ss) _
    exact K I col (by omega) _ hW hO hD
  · show Ev X k_X9_inksBar (103, [some (vr 135), w1, w2, w3, w4, some (vi s), some (vi l), some (vi t), some (vi r), some (vi b), some (vi row), some (vi col), v12], []) (MS I J cc ss) _
    refine ev_n (fr' := (107, [some (vr 135), w1, w2, w3, w4, some (vi s), some (vi l), some (vi t), some (vi r), some (vi b), some (vi row), some (vi col), v12], [vi l, vi col])) (S' := MS I J cc ss) 2 rfl ?_
    refine ev_sub (z := col - l) rfl (by omega) (by omega) (by omega) ?_
    show Ev X k_X9_inksBar (108, [some (vr 135), w1, w2, w3, w4, some (vi s), some (vi l), some (vi t), some (vi r), some (vi b), some (vi row), some (vi col), v12], [vi (col - l)]) (MS I J cc ss) _
    refine ev_n (fr' := (110, [some (vr 135), w1, w2, w3, w4, some (vi s), some (vi l), some (vi t), some (vi r), some (vi b), some (vi row), some (vi col), v12], [vi s, vi (col - l)])) (S' := MS I J cc ss) 1 rfl ?_
    refine ev_ic (c := .lt) (off := 33) rfl (by decide) (fun (g2 : col - l < s) => ?_) (fun (g2 : ¬ (col - l < s)) => ?_)
    · show Ev X k_X9_inksBar (143, [some (vr 135), w1, w2, w3, w4, some (vi s), some (vi l), some (vi t), some (vi r), some (vi b), some (vi row), some (vi col), v12], []) (MS I J cc ss) _
      refine ev_n (fr' := (166, [some (vr 135), w1, w2, w3, w4, some (vi s), some (vi l), some (vi t), some (vi r), some (vi b), some (vi row), some (vi col), some (vi 1)], [vi row, vi col, vr 135])) (S' := MS I J cc ss) 8 rfl ?_
      refine ev_cp rfl rfl rfl ⟨Nat.le_of_ble_eq_true rfl, Nat.le_of_ble_eq_true rfl⟩ (sp_inks X _ _ _ _ col row hQ hW hD (by omega) (by omega)) (fun I1 J q2 => ?_)
      obtain ⟨rfl, rI1, hD⟩ := q2
      show Ev X k_X9_inksBar (169, [some (vr 135), w1, w2, w3, w4, some (vi s), some (vi l), some (vi t), some (vi r), some (vi b), some (vi row), some (vi col), some (vi 1)], []) (MS I1 J cc ss) _
      have hO := hO.trans rI1
      have hW := (congrFun (rI1 135 (by decide)) 17).trans hW
      refine ev_inc (z := col + 1) rfl rfl (by omega) (by omega) (by omega) rfl ?_
      show Ev X k_X9_inksBar (172, [some (vr 135), w1, w2, w3, w4, some (vi s), some (vi l), some (vi t), some (vi r), some (vi b), some (vi row), some (vi (col + 1)), some (vi 1)], []) (MS I1 J cc ss) _
      refine ev_n (fr' := (96, [some (vr 135), w1, w2, w3, w4, some (vi s), some (vi l), some (vi t), some (vi r), some (vi b), some (vi row), some (vi (col + 1)), some (vi 1)], [])) (S' := MS I1 J cc ss) 1 rfl ?_
      exact li_bar X _ _ cc ss w1 w2 w3 w4 l t r b s row (col + 1) _ I0 hQ hW hl ht hr hb hs hrow (by omega) hO (hD.congr (fun y x => by
        show ((D y x || _) || _) = (D y x || _)
        rw [Bool.or_assoc]
        congr 1
        rw [Bool.eq_iff_iff]; simp only [rgB, ptB, Bool.or_eq_true, decide_eq_true_eq]; omega)) K
    · show Ev X k_X9_inksBar (113, [some (vr 135), w1, w2, w3, w4, some (vi s), some (vi l), some (vi t), some (vi r), some (vi b), some (vi row), some (vi col), v12], []) (MS I J cc ss) _
      refine ev_n (fr' := (117, [some (vr 135), w1, w2, w3, w4, some (vi s), some (vi l), some (vi t), some (vi r), some (vi b), some (vi row), some (vi col), v12], [vi col, vi r])) (S' := MS I J cc ss) 2 rfl ?_
      refine ev_sub (z := r - col) rfl (by omega) (by omega) (by omega) ?_
      show Ev X k_X9_inksBar (118, [some (vr 135), w1, w2, w3, w4, some (vi s), some (vi l), some (vi t), some (vi r), some (vi b), some (vi row), some (vi col), v12], [vi (r - col)]) (MS I J cc ss) _
      refine ev_n (fr' := (120, [some (vr 135), w1, w2, w3, w4, some (vi s), some (vi l), some (vi t), some (vi r), some (vi b), some (vi row), some (vi col), v12], [vi s, vi (r - col)])) (S' := MS I J cc ss) 1 rfl ?_
      refine ev_ic (c := .lt) (off := 23) rfl (by decide) (fun (g3 : r - col < s) => ?_) (fun (g3 : ¬ (r - col < s)) => ?_)
      · show Ev X k_X9_inksBar (143, [some (vr 135), w1, w2, w3, w4, some (vi s), some (vi l), some (vi t), some (vi r), some (vi b), some (vi row), some (vi col), v12], []) (MS I J cc ss) _
        refine ev_n (fr' := (166, [some (vr 135), w1, w2, w3, w4, some (vi s), some (vi l), some (vi t), some (vi r), some (vi b), some (vi row), some (vi col), some (vi 1)], [vi row, vi col, vr 135])) (S' := MS I J cc ss) 8 rfl ?_
        refine ev_cp rfl rfl rfl ⟨Nat.le_of_ble_eq_true rfl, Nat.le_of_ble_eq_true rfl⟩ (sp_inks X _ _ _ _ col row hQ hW hD (by omega) (by omega)) (fun I3 J q4 => ?_)
        obtain ⟨rfl, rI3, hD⟩ := q4
        show Ev X k_X9_inksBar (169, [some (vr 135), w1, w2, w3, w4, some (vi s), some (vi l), some (vi t), some (vi r), some (vi b), some (vi row), some (vi col), some (vi 1)], []) (MS I3 J cc ss) _
        have hO := hO.trans rI3
        have hW := (congrFun (rI3 135 (by decide)) 17).trans hW
        refine ev_inc (z := col + 1) rfl rfl (by omega) (by omega) (by omega) rfl ?_
        show Ev X k_X9_inksBar (172, [some (vr 135), w1, w2, w3, w4, some (vi s), some (vi l), some (vi t), some (vi r), some (vi b), some (vi row), some (vi (col + 1)), some (vi 1)], []) (MS I3 J cc ss) _
        refine ev_n (fr' := (96, [some (vr 135), w1, w2, w3, w4, some (vi s), some (vi l), some (vi t), some (vi r), some (vi b), some (vi row), some (vi (col + 1)), some (vi 1)], [])) (S' := MS I3 J cc ss) 1 rfl ?_
        exact li_bar X _ _ cc ss w1 w2 w3 w4 l t r b s row (col + 1) _ I0 hQ hW hl ht hr hb hs hrow (by omega) hO (hD.congr (fun y x => by
          show ((D y x || _) || _) = (D y x || _)
          rw [Bool.or_assoc]
          congr 1
          rw [Bool.eq_iff_iff]; simp only [rgB, ptB, Bool.or_eq_true, decide_eq_true_eq]; omega)) K
      · show Ev X k_X9_inksBar (123, [some (vr 135), w1, w2, w3, w4, some (vi s), some (vi l), some (vi t), some (vi r), some (vi b), some (vi row), some (vi col), v12], []) (MS I J cc ss) _
        refine ev_n (fr' := (127, [some (vr 135), w1, w2, w3, w4, some (vi s), some (vi l), some (vi t), some (vi r), some (vi b), some (vi row), some (vi col), v12], [vi t, vi row])) (S' := MS I J cc ss) 2 rfl ?_
        refine ev_sub (z := row - t) rfl (by omega) (by omega) (by omega) ?_
        show Ev X k_X9_inksBar (128, [some (vr 135), w1, w2, w3, w4, some (vi s), some (vi l), some (vi t), some (vi r), some (vi b), some (vi row), some (vi col), v12], [vi (row - t)]) (MS I J cc ss) _
        refine ev_n (fr' := (130, [some (vr 135), w1, w2, w3, w4, some (vi s), some (vi l), some (vi t), some (vi r), some (vi b), some (vi row), some (vi col), v12], [vi s, vi (row - t)])) (S' := MS I J cc ss) 1 rfl ?_
        refine ev_ic (c := .lt) (off := 13) rfl (by decide) (fun (g4 : row - t < s) => ?_) (fun (g4 : ¬ (row - t < s)) => ?_)
        · show Ev X k_X9_inksBar (143, [some (vr 135), w1, w2, w3, w4, some (vi s), some (vi l), some (vi t), some (vi r), some (vi b), some (vi row), some (vi col), v12], []) (MS I J cc ss) _
          refine ev_n (fr' := (166, [some (vr 135), w1, w2, w3, w4, some (vi s), some (vi l), some (vi t), some (vi r), some (vi b), some (vi row), some (vi col), some (vi 1)], [vi row, vi col, vr 135])) (S' := MS I J cc ss) 8 rfl ?_
          refine ev_cp rfl rfl rfl ⟨Nat.le_of_ble_eq_true rfl, Nat.le_of_ble_eq_true rfl⟩ (sp_inks X _ _ _ _ col row hQ hW hD (by omega) (by omega)) (fun I5 J q6 => ?_)
          obtain ⟨rfl, rI5, hD⟩ := q6
          show Ev X k_X9_inksBar (169, [some (vr 135), w1, w2, w3, w4, some (vi s), some (vi l), some (vi t), some (vi r), some (vi b), some (vi row), some (vi col), some (vi 1)], []) (MS I5 J cc ss) _
          have hO := hO.trans rI5
          have hW := (congrFun (rI5 135 (by decide)) 17).trans hW
          refine ev_inc (z := col + 1) rfl rfl (by omega) (by omega) (by omega) rfl ?_
          show Ev X k_X9_inksBar (172, [some (vr 135), w1, w2, w3, w4, some (vi s), some (vi l), some (vi t), some (vi r), some (vi b), some (vi row), some (vi (col + 1)), some (vi 1)], []) (MS I5 J cc ss) _
          refine ev_n (fr' := (96, [some (vr 135), w1, w2, w3, w4, some (vi s), some (vi l), some (vi t), some (vi r), some (vi b), some (vi row), some (vi (col + 1)), some (vi 1)], [])) (S' := MS I5 J cc ss) 1 rfl ?_
          exact li_bar X _ _ cc ss w1 w2 w3 w4 l t r b s row (col + 1) _ I0 hQ hW hl ht hr hb hs hrow (by omega) hO (hD.congr (fun y x => by
            show ((D y x || _) || _) = (D y x || _)
            rw [Bool.or_assoc]
            congr 1
            rw [Bool.eq_iff_iff]; simp only [rgB, ptB, Bool.or_eq_true, decide_eq_true_eq]; omega)) K
        · show Ev X k_X9_inksBar (133, [some (vr 135), w1, w2, w3, w4, some (vi s), some (vi l), some (vi t), some (vi r), some (vi b), some (vi row), some (vi col), v12], []) (MS I J cc ss) _
          refine ev_n (fr' := (137, [some (vr 135), w1, w2, w3, w4, some (vi s), some (vi l), some (vi t), some (vi r), some (vi b), some (vi row), some (vi col), v12], [vi row, vi b])) (S' := MS I J cc ss) 2 rfl ?_
          refine ev_sub (z := b - row) rfl (by omega) (by omega) (by omega) ?_
          show Ev X k_X9_inksBar (138, [some (vr 135), w1, w2, w3, w4, some (vi s), some (vi l), some (vi t), some (vi r), some (vi b), some (vi row), some (vi col), v12], [vi (b - row)]) (MS I J cc ss) _
          refine ev_n (fr' := (140, [some (vr 135), w1, w2, w3, w4, some (vi s), some (vi l), some (vi t), some (vi r), some (vi b), some (vi row), some (vi col), v12], [vi s, vi (b - row)])) (S' := MS I J cc ss) 1 rfl ?_
          refine ev_ic (c := .ge) (off := 7) rfl (by decide) (fun (g5 : s ≤ b - row) => ?_) (fun (g5 : ¬ (s ≤ b - row)) => ?_)
          · show Ev X k_X9_inksBar (147, [some (vr 135), w1, w2, w3, w4, some (vi s), some (vi l), some (vi t), some (vi r), some (vi b), some (vi row), some (vi col), v12], []) (MS I J cc ss) _
            refine ev_n (fr' := (158, [some (vr 135), w1, w2, w3, w4, some (vi s), some (vi l), some (vi t), some (vi r), some (vi b), some (vi row), some (vi col), some (vi 0)], [vi (-1), vi s])) (S' := MS I J cc ss) 6 rfl ?_
            refine ev_ic (c := .ne) (off := 11) rfl (by decide) (fun (g6 : s ≠ -1) => ?_) (fun (g6 : ¬ (s ≠ -1)) => ?_)
            · show Ev X k_X9_inksBar (169, [some (vr 135), w1, w2, w3, w4, some (vi s), some (vi l), some (vi t), some (vi r), some (vi b), some (vi row), some (vi col), some (vi 0)], []) (MS I J cc ss) _
              refine ev_inc (z := col + 1) rfl rfl (by omega) (by omega) (by omega) rfl ?_
              show Ev X k_X9_inksBar (172, [some (vr 135), w1, w2, w3, w4, some (vi s), some (vi l), some (vi t), some (vi r), some (vi b), some (vi row), some (vi (col + 1)), some (vi 0)], []) (MS I J cc ss) _
              refine ev_n (fr' := (96, [some (vr 135), w1, w2, w3, w4, some (vi s), some (vi l), some (vi t), some (vi r), some (vi b), some (vi row), some (vi (col + 1)), some (vi 0)], [])) (S' := MS I J cc ss) 1 rfl ?_
              exact li_bar X _ _ cc ss w1 w2 w3 w4 l t r b s row (col + 1) _ I0 hQ hW hl ht hr hb hs hrow (by omega) hO (hD.congr (fun y x => by
                show (D y x || _) = (D y x || _)
                congr 1
                rw [Bool.eq_iff_iff]; simp only [rgB, ptB, Bool.or_eq_true, decide_eq_true_eq]; omega)) K
            · show Ev X k_X9_inksBar (161, [some (vr 135), w1, w2, w3, w4, some (vi s), some (vi l), some (vi t), some (vi r), some (vi b), some (vi row), some (vi col), some (vi 0)], []) (MS I J cc ss) _
              refine ev_n (fr' := (166, [some (vr 135), w1, w2, w3, w4, some (vi s), some (vi l), some (vi t), some (vi r), some (vi b), some (vi row), some (vi col), some (vi 0)], [vi row, vi col, vr 135])) (S' := MS I J cc ss) 3 rfl ?_
              refine ev_cp rfl rfl rfl ⟨Nat.le_of_ble_eq_true rfl, Nat.le_of_ble_eq_true rfl⟩ (sp_inks X _ _ _ _ col row hQ hW hD (by omega) (by omega)) (fun I7 J q8 => ?_)
              obtain ⟨rfl, rI7, hD⟩ := q8
              show Ev X k_X9_inksBar (169, [some (vr 135), w1, w2, w3, w4, some (vi s), some (vi l), some (vi t), some (vi r), some (vi b), some (vi row), some (vi col), some (vi 0)], []) (MS I7 J cc ss) _
              have hO := hO.trans rI7
              have hW := (congrFun (rI7 135 (by decide)) 17).trans hW
              refine ev_inc (z := col + 1) rfl rfl (by omega) (by omega) (by omega) rfl ?_
              show Ev X k_X9_inksBar (172, [some (vr 135), w1, w2, w3, w4, some (vi s), some (vi l), some (vi t), some (vi r), some (vi b), some (vi row), some (vi (col + 1)), some (vi 0)], []) (MS I7 J cc ss) _
              refine ev_n (fr' := (96, [some (vr 135), w1, w2, w3, w4, some (vi s), some (vi l), some (vi t), some (vi r), some (vi b), some (vi row), some (vi (col + 1)), some (vi 0)], [])) (S' := MS I7 J cc ss) 1 rfl ?_
              exact li_bar X _ _ cc ss w1 w2 w3 w4 l t r b s row (col + 1) _ I0 hQ hW hl ht hr hb hs hrow (by omega) hO (hD.congr (fun y x => by
                show ((D y x || _) || _) = (D y x || _)
                rw [Bool.or_assoc]
                congr 1
                rw [Bool.eq_iff_iff]; simp only [rgB, ptB, Bool.or_eq_true, decide_eq_true_eq]; omega)) K
          · show Ev X k_X9_inksBar (143, [some (vr 135), w1, w2, w3, w4, some (vi s), some (vi l), some (vi t), some (vi r), some (vi b), some (vi row), some (vi col), v12], []) (MS I J cc ss) _
            refine ev_n (fr' := (166, [some (vr 135), w1, w2, w3, w4, some (vi s), some (vi l), some (vi t), some (vi r), some (vi b), some (vi row), some (vi col), some (vi 1)], [vi row, vi col, vr 135])) (S' := MS I J cc ss) 8 rfl ?_
            refine ev_cp rfl rfl rfl ⟨Nat.le_of_ble_eq_true rfl, Nat.le_of_ble_eq_true rfl⟩ (sp_inks X _ _ _ _ col row hQ hW hD (by omega) (by omega)) (fun I9 J q10 => ?_)
            obtain ⟨rfl, rI9, hD⟩ := q10
            show Ev X k_X9_inksBar (169, [some (vr 135), w1, w2, w3, w4, some (vi s), some (vi l), some (vi t), some (vi r), some (vi b), some (vi row), some (vi col), some (vi 1)], []) (MS I9 J cc ss) _
            have hO := hO.trans rI9
            have hW := (congrFun (rI9 135 (by decide)) 17).trans hW
            refine ev_inc (z := col + 1) rfl rfl (by omega) (by omega) (by omega) rfl ?_
            show Ev X k_X9_inksBar (172, [some (vr 135), w1, w2, w3, w4, some (vi s), some (vi l), some (vi t), some (vi r), some (vi b), some (vi row), some (vi (col + 1)), some (vi 1)], []) (MS I9 J cc ss) _
            refine ev_n (fr' := (96, [some (vr 135), w1, w2, w3, w4, some (vi s), some (vi l), some (vi t), some (vi r), some (vi b), some (vi row), some (vi (col + 1)), some (vi 1)], [])) (S' := MS I9 J cc ss) 1 rfl ?_
            exact li_bar X _ _ cc ss w1 w2 w3 w4 l t r b s row (col + 1) _ I0 hQ hW hl ht hr hb hs hrow (by omega) hO (hD.congr (fun y x => by
              show ((D y x || _) || _) = (D y x || _)
              rw [Bool.or_assoc]
              congr 1
              rw [Bool.eq_iff_iff]; simp only [rgB, ptB, Bool.or_eq_true, decide_eq_true_eq]; omega)) K
termination_by (r + 1 - col).toNat
decreasing_by all_goals omega
theorem lp_bar (X : AX) (I J : Nat → Nat → Int) (cc ss : Nat) {D : Nat → Nat → Bool} {P : Int} (w1 w2 w3 w4 : Option AV) (l t r b s : Int) (row : Int) (v11 v12 : Option AV) (I0 : F2) (hQ : 0 ≤ P ∧ P ≤ 32) (hW : I 135 17 = P) (hl : -300 ≤ l ∧ l ≤ 300) (ht : -300 ≤ t ∧ t ≤ 300) (hr : -300 ≤ r ∧ r ≤ 300) (hb : -300 ≤ b ∧ b ≤ 300) (hs : -1 ≤ s ∧ s ≤ 300) (hlr : l ≤ r ∧ t ≤ b ∧ s ≠ 0) (hrow : t ≤ row ∧ row ≤ b + 1) (hO : onlyM I0 I) (hD : DM I (fun y x => D y x || rgB l t r b s P row l y x)) : Ev X k_X9_inksBar (85, [some (vr 135), w1, w2, w3, w4, some (vi s), some (vi l), some (vi t), some (vi r), some (vi b), some (vi row), v11, v12], []) (MS I J cc ss) (PV cc ss none (fun I' J' => J' = J ∧ onlyM I0 I' ∧ DM I' (fun y x => D y x || barB l t (r + 1) (b + 1) s P y x))) := by
  refine ev_n (fr' := (89, [some (vr 135), w1, w2, w3, w4, some (vi s), some (vi l), some (vi t), some (vi r), some (vi b), some (vi row), v11, v12], [vi b, vi row])) (S' := MS I J cc ss) 2 rfl ?_
  refine ev_ic (c := .gt) (off := 92) rfl (by decide) (fun (g1 : b < row) => ?_) (fun (g1 : ¬ (b < row)) => ?_)
  · show Ev X k_X9_inksBar (181, [some (vr 135), w1, w2, w3, w4, some (vi s), some (vi l), some (vi t), some (vi r), some (vi b), some (vi row), v11, v12], []) (MS I J cc ss) _
    refine ev_r rfl rfl rfl ?_
    refine ⟨_, _, rfl, rfl, rfl, hO, hD.congr (fun y x => ?_)⟩
    congr 1
    unfold barB
    by_cases hs1 : s = -1
    · rw [if_pos hs1, Bool.eq_iff_iff]; simp only [rgB, areaB, decide_eq_true_eq]; omega
    · rw [if_neg hs1, Bool.eq_iff_iff]; simp only [rgB, boxB, areaB, Bool.or_eq_true, decide_eq_true_eq]; omega
  · show Ev X k_X9_inksBar (92, [some (vr 135), w1, w2, w3, w4, some (vi s), some (vi l), some (vi t), some (vi r), some (vi b), some (vi row), v11, v12], []) (MS I J cc ss) _
    refine ev_n (fr' := (96, [some (vr 135), w1, w2, w3, w4, some (vi s), some (vi l), some (vi t), some (vi r), some (vi b), some (vi row), some (vi l), v12], [])) (S' := MS I J cc ss) 2 rfl ?_
    refine li_bar X _ _ cc ss w1 w2 w3 w4 l t r b s row l _ I0 hQ hW hl ht hr hb hs (by omega) (by omega) hO hD (fun I1 col hcol v12 hW hO hD => ?_)
    show Ev X k_X9_inksBar (175, [some (vr 135), w1, w2, w3, w4, some (vi s), some (vi l), some (vi t), some (vi r), some (vi b), some (vi row), some (vi col), v12], []) (MS I1 J cc ss) _
    refine ev_inc (z := row + 1) rfl rfl (by omega) (by omega) (by omega) rfl ?_
    show Ev X k_X9_inksBar (178, [some (vr 135), w1, w2, w3, w4, some (vi s), some (vi l), some (vi t), some (vi r), some (vi b), some (vi (row + 1)), some (vi col), v12], []) (MS I1 J cc ss) _
    refine ev_n (fr' := (85, [some (vr 135), w1, w2, w3, w4, some (vi s), some (vi l), some (vi t), some (vi r), some (vi b), some (vi (row + 1)), some (vi col), v12], [])) (S' := MS I1 J cc ss) 1 rfl ?_
    exact lp_bar X _ _ cc ss w1 w2 w3 w4 l t r b s (row + 1) _ _ I0 hQ hW hl ht hr hb hs hlr (by omega) hO (hD.congr (fun y x => by
      show (D y x || _) = (D y x || _)
      congr 1
      rw [Bool.eq_iff_iff]; simp only [rgB, Bool.or_eq_true, decide_eq_true_eq]; omega))
termination_by (b + 1 - row).toNat
decreasing_by all_goals omega
theorem sp_inksBar (X : AX) (I J : Nat → Nat → Int) (cc ss : Nat) {D : Nat → Nat → Bool} {P : Int} (x y w h s : Int) (hQ : 0 ≤ P ∧ P ≤ 32) (hW : I 135 17 = P) (hD : DM I D) (hx : -100 ≤ x ∧ x ≤ 100) (hy : -100 ≤ y ∧ y ≤ 100) (hw : 0 ≤ w ∧ w ≤ 100) (hh : 0 ≤ h ∧ h ≤ 100) (hs : -1 ≤ s ∧ s ≤ 300) (hs0 : s ≠ 0) : Ev X k_X9_inksBar (0, [some (vr 135), some (vi x), some (vi y), some (vi w), some (vi h), some (vi s), none, none, none, none, none, none, none], []) (MS I J cc ss) (PV cc ss none (fun I' J' => J' = J ∧ onlyM I I' ∧ DM I' (fun y9 x9 => D y9 x9 || barB (snapF x P) (snapF y P) (hiF (snapF x P) (snapF (x + w) P)) (hiF (snapF y P) (snapF (y + h) P)) s P y9 x9))) := by
  refine ev_n (fr' := (5, [some (vr 135), some (vi x), some (vi y), some (vi w), some (vi h), some (vi s), none, none, none, none, none, none, none], [vi (I 135 17), vi x])) (S' := MS I J cc ss) 3 rfl ?_
  refine ev_eqi (hW) ?_
  show Ev X k_X9_inksBar (5, [some (vr 135), some (vi x), some (vi y), some (vi w), some (vi h), some (vi s), none, none, none, none, none, none, none], [vi P, vi x]) (MS I J cc ss) _
  refine ev_cv rfl rfl rfl ⟨Nat.le_of_ble_eq_true rfl, Nat.le_of_ble_eq_true rfl⟩ (sp_r_snapped X _ x P (by omega) (by omega)) ?_
  show Ev X k_X9_inksBar (8, [some (vr 135), some (vi x), some (vi y), some (vi w), some (vi h), some (vi s), none, none, none, none, none, none, none], [vi (snapF x P)]) (MS I J cc ss) _
  have := snapF_rng (u := x) (P := P) (by omega) (by omega) (by omega) (by omega)
  refine ev_n (fr' := (15, [some (vr 135), some (vi x), some (vi y), some (vi w), some (vi h), some (vi s), some (vi (snapF x P)), none, none, none, none, none, none], [vi (I 135 17), vi y])) (S' := MS I J cc ss) 4 rfl ?_
  refine ev_eqi (hW) ?_
  show Ev X k_X9_inksBar (15, [some (vr 135), some (vi x), some (vi y), some (vi w), some (vi h), some (vi s), some (vi (snapF x P)), none, none, none, none, none, none], [vi P, vi y]) (MS I J cc ss) _
  refine ev_cv rfl rfl rfl ⟨Nat.le_of_ble_eq_true rfl, Nat.le_of_ble_eq_true rfl⟩ (sp_r_snapped X _ y P (by omega) (by omega)) ?_
  show Ev X k_X9_inksBar (18, [some (vr 135), some (vi x), some (vi y), some (vi w), some (vi h), some (vi s), some (vi (snapF x P)), none, none, none, none, none, none], [vi (snapF y P)]) (MS I J cc ss) _
  have := snapF_rng (u := y) (P := P) (by omega) (by omega) (by omega) (by omega)
  refine ev_n (fr' := (22, [some (vr 135), some (vi x), some (vi y), some (vi w), some (vi h), some (vi s), some (vi (snapF x P)), some (vi (snapF y P)), none, none, none, none, none], [vi w, vi x])) (S' := MS I J cc ss) 3 rfl ?_
  refine ev_add (z := x + w) rfl (by omega) (by omega) (by omega) ?_
  show Ev X k_X9_inksBar (23, [some (vr 135), some (vi x), some (vi y), some (vi w), some (vi h), some (vi s), some (vi (snapF x P)), some (vi (snapF y P)), none, none, none, none, none], [vi (x + w)]) (MS I J cc ss) _
  refine ev_n (fr' := (27, [some (vr 135), some (vi x), some (vi y), some (vi w), some (vi h), some (vi s), some (vi (snapF x P)), some (vi (snapF y P)), none, none, none, none, none], [vi (I 135 17), vi (x + w)])) (S' := MS I J cc ss) 2 rfl ?_
  refine ev_eqi (hW) ?_
  show Ev X k_X9_inksBar (27, [some (vr 135), some (vi x), some (vi y), some (vi w), some (vi h), some (vi s), some (vi (snapF x P)), some (vi (snapF y P)), none, none, none, none, none], [vi P, vi (x + w)]) (MS I J cc ss) _
  refine ev_cv rfl rfl rfl ⟨Nat.le_of_ble_eq_true rfl, Nat.le_of_ble_eq_true rfl⟩ (sp_r_snapped X _ (x + w) P (by omega) (by omega)) ?_
  show Ev X k_X9_inksBar (30, [some (vr 135), some (vi x), some (vi y), some (vi w), some (vi h), some (vi s), some (vi (snapF x P)), some (vi (snapF y P)), none, none, none, none, none], [vi (snapF (x + w) P)]) (MS I J cc ss) _
  have := snapF_rng (u := x + w) (P := P) (by omega) (by omega) (by omega) (by omega)
  refine ev_n (fr' := (31, [some (vr 135), some (vi x), some (vi y), some (vi w), some (vi h), some (vi s), some (vi (snapF x P)), some (vi (snapF y P)), none, none, none, none, none], [vi 1, vi (snapF (x + w) P)])) (S' := MS I J cc ss) 1 rfl ?_
  refine ev_sub (z := (snapF (x + w) P) - 1) rfl (by omega) (by omega) (by omega) ?_
  show Ev X k_X9_inksBar (32, [some (vr 135), some (vi x), some (vi y), some (vi w), some (vi h), some (vi s), some (vi (snapF x P)), some (vi (snapF y P)), none, none, none, none, none], [vi ((snapF (x + w) P) - 1)]) (MS I J cc ss) _
  refine ev_n (fr' := (37, [some (vr 135), some (vi x), some (vi y), some (vi w), some (vi h), some (vi s), some (vi (snapF x P)), some (vi (snapF y P)), some (vi ((snapF (x + w) P) - 1)), none, none, none, none], [vi h, vi y])) (S' := MS I J cc ss) 3 rfl ?_
  refine ev_add (z := y + h) rfl (by omega) (by omega) (by omega) ?_
  show Ev X k_X9_inksBar (38, [some (vr 135), some (vi x), some (vi y), some (vi w), some (vi h), some (vi s), some (vi (snapF x P)), some (vi (snapF y P)), some (vi ((snapF (x + w) P) - 1)), none, none, none, none], [vi (y + h)]) (MS I J cc ss) _
  refine ev_n (fr' := (42, [some (vr 135), some (vi x), some (vi y), some (vi w), some (vi h), some (vi s), some (vi (snapF x P)), some (vi (snapF y P)), some (vi ((snapF (x + w) P) - 1)), none, none, none, none], [vi (I 135 17), vi (y + h)])) (S' := MS I J cc ss) 2 rfl ?_
  refine ev_eqi (hW) ?_
  show Ev X k_X9_inksBar (42, [some (vr 135), some (vi x), some (vi y), some (vi w), some (vi h), some (vi s), some (vi (snapF x P)), some (vi (snapF y P)), some (vi ((snapF (x + w) P) - 1)), none, none, none, none], [vi P, vi (y + h)]) (MS I J cc ss) _
  refine ev_cv rfl rfl rfl ⟨Nat.le_of_ble_eq_true rfl, Nat.le_of_ble_eq_true rfl⟩ (sp_r_snapped X _ (y + h) P (by omega) (by omega)) ?_
  show Ev X k_X9_inksBar (45, [some (vr 135), some (vi x), some (vi y), some (vi w), some (vi h), some (vi s), some (vi (snapF x P)), some (vi (snapF y P)), some (vi ((snapF (x + w) P) - 1)), none, none, none, none], [vi (snapF (y + h) P)]) (MS I J cc ss) _
  have := snapF_rng (u := y + h) (P := P) (by omega) (by omega) (by omega) (by omega)
  refine ev_n (fr' := (46, [some (vr 135), some (vi x), some (vi y), some (vi w), some (vi h), some (vi s), some (vi (snapF x P)), some (vi (snapF y P)), some (vi ((snapF (x + w) P) - 1)), none, none, none, none], [vi 1, vi (snapF (y + h) P)])) (S' := MS I J cc ss) 1 rfl ?_
  refine ev_sub (z := (snapF (y + h) P) - 1) rfl (by omega) (by omega) (by omega) ?_
  show Ev X k_X9_inksBar (47, [some (vr 135), some (vi x), some (vi y), some (vi w), some (vi h), some (vi s), some (vi (snapF x P)), some (vi (snapF y P)), some (vi ((snapF (x + w) P) - 1)), none, none, none, none], [vi ((snapF (y + h) P) - 1)]) (MS I J cc ss) _
  refine ev_n (fr' := (53, [some (vr 135), some (vi x), some (vi y), some (vi w), some (vi h), some (vi s), some (vi (snapF x P)), some (vi (snapF y P)), some (vi ((snapF (x + w) P) - 1)), some (vi ((snapF (y + h) P) - 1)), none, none, none], [vi (snapF x P), vi ((snapF (x + w) P) - 1)])) (S' := MS I J cc ss) 3 rfl ?_
  refine ev_ic (c := .ge) (off := 8) rfl (by decide) (fun (g1 : (snapF x P) ≤ (snapF (x + w) P) - 1) => ?_) (fun (g1 : ¬ ((snapF x P) ≤ (snapF (x + w) P) - 1)) => ?_)
  · show Ev X k_X9_inksBar (61, [some (vr 135), some (vi x), some (vi y), some (vi w), some (vi h), some (vi s), some (vi (snapF x P)), some (vi (snapF y P)), some (vi ((snapF (x + w) P) - 1)), some (vi ((snapF (y + h) P) - 1)), none, none, none], []) (MS I J cc ss) _
    refine ev_n (fr' := (69, [some (vr 135), some (vi x), some (vi y), some (vi w), some (vi h), some (vi s), some (vi (snapF x P)), some (vi (snapF y P)), some (vi ((snapF (x + w) P) - 1)), some (vi ((snapF (y + h) P) - 1)), none, none, none], [vi (snapF y P), vi ((snapF (y + h) P) - 1)])) (S' := MS I J cc ss) 4 rfl ?_
    refine ev_ic (c := .ge) (off := 8) rfl (by decide) (fun (g2 : (snapF y P) ≤ (snapF (y + h) P) - 1) => ?_) (fun (g2 : ¬ ((snapF y P) ≤ (snapF (y + h) P) - 1)) => ?_)
    · show Ev X k_X9_inksBar (77, [some (vr 135), some (vi x), some (vi y), some (vi w), some (vi h), some (vi s), some (vi (snapF x P)), some (vi (snapF y P)), some (vi ((snapF (x + w) P) - 1)), some (vi ((snapF (y + h) P) - 1)), none, none, none], []) (MS I J cc ss) _
      refine ev_n (fr' := (85, [some (vr 135), some (vi x), some (vi y), some (vi w), some (vi h), some (vi s), some (vi (snapF x P)), some (vi (snapF y P)), some (vi ((snapF (x + w) P) - 1)), some (vi ((snapF (y + h) P) - 1)), some (vi (snapF y P)), none, none], [])) (S' := MS I J cc ss) 4 rfl ?_
      refine (lp_bar (D := D) X _ _ cc ss _ _ _ _ (snapF x P) (snapF y P) ((snapF (x + w) P) - 1) ((snapF (y + h) P) - 1) s (snapF y P) _ _ I hQ hW (by omega) (by omega) (by omega) (by omega) hs (by omega) (by omega) (onlyM.refl _) (hD.congr (fun y1 x1 => ?_))).mono ?_
      · rw [show rgB (snapF x P) (snapF y P) ((snapF (x + w) P) - 1) ((snapF (y + h) P) - 1) s P (snapF y P) (snapF x P) y1 x1 = false from decide_eq_false (by omega), Bool.or_false]
      · rw [show hiF (snapF x P) (snapF (x + w) P) = ((snapF (x + w) P) - 1) + 1 by unfold hiF; omega, show hiF (snapF y P) (snapF (y + h) P) = ((snapF (y + h) P) - 1) + 1 by unfold hiF; omega]
        exact fun o T q => q
    · show Ev X k_X9_inksBar (72, [some (vr 135), some (vi x), some (vi y), some (vi w), some (vi h), some (vi s), some (vi (snapF x P)), some (vi (snapF y P)), some (vi ((snapF (x + w) P) - 1)), some (vi ((snapF (y + h) P) - 1)), none, none, none], []) (MS I J cc ss) _
      refine ev_n (fr' := (85, [some (vr 135), some (vi x), some (vi y), some (vi w), some (vi h), some (vi s), some (vi (snapF x P)), some (vi (snapF y P)), some (vi ((snapF (x + w) P) - 1)), some (vi (snapF y P)), some (vi (snapF y P)), none, none], [])) (S' := MS I J cc ss) 5 rfl ?_
      refine (lp_bar (D := D) X _ _ cc ss _ _ _ _ (snapF x P) (snapF y P) ((snapF (x + w) P) - 1) (snapF y P) s (snapF y P) _ _ I hQ hW (by omega) (by omega) (by omega) (by omega) hs (by omega) (by omega) (onlyM.refl _) (hD.congr (fun y1 x1 => ?_))).mono ?_
      · rw [show rgB (snapF x P) (snapF y P) ((snapF (x + w) P) - 1) (snapF y P) s P (snapF y P) (snapF x P) y1 x1 = false from decide_eq_false (by omega), Bool.or_false]
      · rw [show hiF (snapF x P) (snapF (x + w) P) = ((snapF (x + w) P) - 1) + 1 by unfold hiF; omega, show hiF (snapF y P) (snapF (y + h) P) = (snapF y P) + 1 by unfold hiF; omega]
        exact fun o T q => q
  · show Ev X k_X9_inksBar (56, [some (vr 135), some (vi x), some (vi y), some (vi w), some (vi h), some (vi s), some (vi (snapF x P)), some (vi (snapF y P)), some (vi ((snapF (x + w) P) - 1)), some (vi ((snapF (y + h) P) - 1)), none, none, none], []) (MS I J cc ss) _
    refine ev_n (fr' := (69, [some (vr 135), some (vi x), some (vi y), some (vi w), some (vi h), some (vi s), some (vi (snapF x P)), some (vi (snapF y P)), some (vi (snapF x P)), some (vi ((snapF (y + h) P) - 1)), none, none, none], [vi (snapF y P), vi ((snapF (y + h) P) - 1)])) (S' := MS I J cc ss) 5 rfl ?_
    refine ev_ic (c := .ge) (off := 8) rfl (by decide) (fun (g3 : (snapF y P) ≤ (snapF (y + h) P) - 1) => ?_) (fun (g3 : ¬ ((snapF y P) ≤ (snapF (y + h) P) - 1)) => ?_)
    · show Ev X k_X9_inksBar (77, [some (vr 135), some (vi x), some (vi y), some (vi w), some (vi h), some (vi s), some (vi (snapF x P)), some (vi (snapF y P)), some (vi (snapF x P)), some (vi ((snapF (y + h) P) - 1)), none, none, none], []) (MS I J cc ss) _
      refine ev_n (fr' := (85, [some (vr 135), some (vi x), some (vi y), some (vi w), some (vi h), some (vi s), some (vi (snapF x P)), some (vi (snapF y P)), some (vi (snapF x P)), some (vi ((snapF (y + h) P) - 1)), some (vi (snapF y P)), none, none], [])) (S' := MS I J cc ss) 4 rfl ?_
      refine (lp_bar (D := D) X _ _ cc ss _ _ _ _ (snapF x P) (snapF y P) (snapF x P) ((snapF (y + h) P) - 1) s (snapF y P) _ _ I hQ hW (by omega) (by omega) (by omega) (by omega) hs (by omega) (by omega) (onlyM.refl _) (hD.congr (fun y1 x1 => ?_))).mono ?_
      · rw [show rgB (snapF x P) (snapF y P) (snapF x P) ((snapF (y + h) P) - 1) s P (snapF y P) (snapF x P) y1 x1 = false from decide_eq_false (by omega), Bool.or_false]
      · rw [show hiF (snapF x P) (snapF (x + w) P) = (snapF x P) + 1 by unfold hiF; omega, show hiF (snapF y P) (snapF (y + h) P) = ((snapF (y + h) P) - 1) + 1 by unfold hiF; omega]
        exact fun o T q => q
    · show Ev X k_X9_inksBar (72, [some (vr 135), some (vi x), some (vi y), some (vi w), some (vi h), some (vi s), some (vi (snapF x P)), some (vi (snapF y P)), some (vi (snapF x P)), some (vi ((snapF (y + h) P) - 1)), none, none, none], []) (MS I J cc ss) _
      refine ev_n (fr' := (85, [some (vr 135), some (vi x), some (vi y), some (vi w), some (vi h), some (vi s), some (vi (snapF x P)), some (vi (snapF y P)), some (vi (snapF x P)), some (vi (snapF y P)), some (vi (snapF y P)), none, none], [])) (S' := MS I J cc ss) 5 rfl ?_
      refine (lp_bar (D := D) X _ _ cc ss _ _ _ _ (snapF x P) (snapF y P) (snapF x P) (snapF y P) s (snapF y P) _ _ I hQ hW (by omega) (by omega) (by omega) (by omega) hs (by omega) (by omega) (onlyM.refl _) (hD.congr (fun y1 x1 => ?_))).mono ?_
      · rw [show rgB (snapF x P) (snapF y P) (snapF x P) (snapF y P) s P (snapF y P) (snapF x P) y1 x1 = false from decide_eq_false (by omega), Bool.or_false]
      · rw [show hiF (snapF x P) (snapF (x + w) P) = (snapF x P) + 1 by unfold hiF; omega, show hiF (snapF y P) (snapF (y + h) P) = (snapF y P) + 1 by unfold hiF; omega]
        exact fun o T q => q
