/-! INK, class side (printed by gen/g33.py) -/
theorem orow_step_126 {I I0 : F2} {t0 k : Nat} {m z : Int} (hR : ∀ q, I 127 q = if t0 ≤ q ∧ q < k then opI (· ||| ·) (I0 127 q) m else I0 127 q) (hk : t0 ≤ k) (hz : z = opI (· ||| ·) (I 127 k) m) : ∀ q, up2 I 127 k z 127 q = if t0 ≤ q ∧ q < k + 1 then opI (· ||| ·) (I0 127 q) m else I0 127 q := by
  intro q
  by_cases hq : q = k
  · subst hq
    rw [up2_same, if_pos ⟨hk, by omega⟩, hz, hR q, if_neg (by omega)]
  · rw [up2_ne2 _ _ _ _ hq, hR q]
    by_cases h : t0 ≤ q ∧ q < k
    · rw [if_pos h, if_pos ⟨h.1, by omega⟩]
    · rw [if_neg h, if_neg (by omega)]
theorem lp_inkArea_126 (X : AX) (I J : Nat → Nat → Int) (cc ss : Nat) {P : Int} (l t r b : Int) (I0 : F2) (t0 k : Nat) (hQ : 0 ≤ P ∧ P ≤ 32) (h1 : I0 126 1 = P) (h2 : t0 ≤ 2000) (htk : t0 ≤ k ∧ (k = t0 ∨ (k : Int) ≤ (if P < b then P else b))) (hF : ∀ a, a ≠ 127 → I a = I0 a) (hR : ∀ q, I 127 q = if t0 ≤ q ∧ q < k then opI (· ||| ·) (I0 127 q) (colM (if l < 0 then 0 else l) (if P < r then P else r)) else I0 127 q) : Ev X k_X0_inkArea (36, [some (vr 126), some (vi l), some (vi t), some (vi r), some (vi b), some (vi (colM (if l < 0 then 0 else l) (if P < r then P else r))), some (vi (if P < b then P else b)), some (vi (k : Int))], []) (MS I J cc ss) (PV cc ss none (fun I' J' => J' = J ∧ (∀ a, a ≠ 127 → I' a = I0 a) ∧ ∀ q, I' 127 q = if t0 ≤ q ∧ (q : Int) < (if P < b then P else b) then opI (· ||| ·) (I0 127 q) (colM (if l < 0 then 0 else l) (if P < r then P else r)) else I0 127 q)) := by
  refine ev_n (fr' := (40, [some (vr 126), some (vi l), some (vi t), some (vi r), some (vi b), some (vi (colM (if l < 0 then 0 else l) (if P < r then P else r))), some (vi (if P < b then P else b)), some (vi (k : Int))], [vi (if P < b then P else b), vi (k : Int)])) (S' := MS I J cc ss) 2 rfl ?_
  refine ev_ic (c := .ge) (off := 21) rfl (by decide) (fun (g1 : (if P < b then P else b) ≤ (k : Int)) => ?_) (fun (g1 : ¬ ((if P < b then P else b) ≤ (k : Int))) => ?_)
  · show Ev X k_X0_inkArea (61, [some (vr 126), some (vi l), some (vi t), some (vi r), some (vi b), some (vi (colM (if l < 0 then 0 else l) (if P < r then P else r))), some (vi (if P < b then P else b)), some (vi (k : Int))], []) (MS I J cc ss) _
    refine ev_r rfl rfl rfl ?_
    refine ⟨_, _, rfl, rfl, rfl, hF, fun q => ?_⟩
    rw [hR q]
    by_cases h : t0 ≤ q ∧ q < k
    · rw [if_pos h, if_pos (show t0 ≤ q ∧ (q : Int) < (if P < b then P else b) from ⟨h.1, by omega⟩)]
    · rw [if_neg h, if_neg (show ¬ (t0 ≤ q ∧ (q : Int) < (if P < b then P else b)) by omega)]
  · show Ev X k_X0_inkArea (43, [some (vr 126), some (vi l), some (vi t), some (vi r), some (vi b), some (vi (colM (if l < 0 then 0 else l) (if P < r then P else r))), some (vi (if P < b then P else b)), some (vi (k : Int))], []) (MS I J cc ss) _
    refine ev_n (fr' := (50, [some (vr 126), some (vi l), some (vi t), some (vi r), some (vi b), some (vi (colM (if l < 0 then 0 else l) (if P < r then P else r))), some (vi (if P < b then P else b)), some (vi (k : Int))], [vi (k : Int), vr 127, vi (k : Int), vr 127])) (S' := MS I J cc ss) 4 rfl ?_
    refine ev_iaN (j := k) (z := (I 127 k)) rfl rfl (by omega) (by omega) (rfl) ?_
    show Ev X k_X0_inkArea (51, [some (vr 126), some (vi l), some (vi t), some (vi r), some (vi b), some (vi (colM (if l < 0 then 0 else l) (if P < r then P else r))), some (vi (if P < b then P else b)), some (vi (k : Int))], [vi (I 127 k), vi (k : Int), vr 127]) (MS I J cc ss) _
    refine ev_n (fr' := (54, [some (vr 126), some (vi l), some (vi t), some (vi r), some (vi b), some (vi (colM (if l < 0 then 0 else l) (if P < r then P else r))), some (vi (if P < b then P else b)), some (vi (k : Int))], [vi (opI (· ||| ·) (I 127 k) (colM (if l < 0 then 0 else l) (if P < r then P else r))), vi (k : Int), vr 127])) (S' := MS I J cc ss) 2 rfl ?_
    refine ev_iasN (j := k) rfl rfl (by omega) (by omega) ?_
    show Ev X k_X0_inkArea (55, [some (vr 126), some (vi l), some (vi t), some (vi r), some (vi b), some (vi (colM (if l < 0 then 0 else l) (if P < r then P else r))), some (vi (if P < b then P else b)), some (vi (k : Int))], []) (MS (up2 I 127 k (opI (· ||| ·) (I 127 k) (colM (if l < 0 then 0 else l) (if P < r then P else r)))) J cc ss) _
    refine ev_inc (z := (k : Int) + 1) rfl rfl (by omega) (by omega) (by omega) rfl ?_
    show Ev X k_X0_inkArea (58, [some (vr 126), some (vi l), some (vi t), some (vi r), some (vi b), some (vi (colM (if l < 0 then 0 else l) (if P < r then P else r))), some (vi (if P < b then P else b)), some (vi ((k : Int) + 1))], []) (MS (up2 I 127 k (opI (· ||| ·) (I 127 k) (colM (if l < 0 then 0 else l) (if P < r then P else r)))) J cc ss) _
    refine ev_n (fr' := (36, [some (vr 126), some (vi l), some (vi t), some (vi r), some (vi b), some (vi (colM (if l < 0 then 0 else l) (if P < r then P else r))), some (vi (if P < b then P else b)), some (vi ((k : Int) + 1))], [])) (S' := MS (up2 I 127 k (opI (· ||| ·) (I 127 k) (colM (if l < 0 then 0 else l) (if P < r then P else r)))) J cc ss) 1 rfl ?_
    exact lp_inkArea_126 X _ J cc ss l t r b I0 t0 (k + 1) hQ h1 h2 (by omega) (fun a ha => by rw [up2_row _ _ _ _ ha]; exact hF a ha) (orow_step_126 hR htk.1 rfl)
termination_by 3000 - k
decreasing_by all_goals omega
theorem sp_inkArea_126 (X : AX) (I J : Nat → Nat → Int) (cc ss : Nat) {D : Nat → Nat → Bool} {P e : Int} (l t r b : Int) (hD : DR I 126 P e D) (hQ : 0 ≤ P ∧ P ≤ 32) (he : -2 ≤ e ∧ e ≤ 2) (hl : -1000 ≤ l ∧ l ≤ 1000) (ht : -1000 ≤ t ∧ t ≤ 1000) (hr : -1000 ≤ r ∧ r ≤ 1000) (hb : -1000 ≤ b ∧ b ≤ 1000) : Ev X k_X0_inkArea (0, [some (vr 126), some (vi l), some (vi t), some (vi r), some (vi b), none, none, none], []) (MS I J cc ss) (PV cc ss none (fun I' J' => J' = J ∧ onlyD 126 I I' ∧ DR I' 126 P e (fun y x => D y x || areaB l t r b P y x))) := by
  refine ev_n (fr' := (2, [some (vr 126), some (vi l), some (vi t), some (vi r), some (vi b), none, none, none], [vi 0, vi l])) (S' := MS I J cc ss) 2 rfl ?_
  refine ev_cv rfl rfl rfl ⟨Nat.le_of_ble_eq_true rfl, Nat.le_of_ble_eq_true rfl⟩ (sp_max X _ l 0 ) ?_
  show Ev X k_X0_inkArea (5, [some (vr 126), some (vi l), some (vi t), some (vi r), some (vi b), none, none, none], [vi (if l < 0 then 0 else l)]) (MS I J cc ss) _
  refine ev_n (fr' := (10, [some (vr 126), some (vi l), some (vi t), some (vi r), some (vi b), none, none, none], [vi (I 126 1), vi r, vi (if l < 0 then 0 else l)])) (S' := MS I J cc ss) 3 rfl ?_
  refine ev_eqi (hD.1) ?_
  show Ev X k_X0_inkArea (10, [some (vr 126), some (vi l), some (vi t), some (vi r), some (vi b), none, none, none], [vi P, vi r, vi (if l < 0 then 0 else l)]) (MS I J cc ss) _
  refine ev_cv rfl rfl rfl ⟨Nat.le_of_ble_eq_true rfl, Nat.le_of_ble_eq_true rfl⟩ (sp_min X _ r P ) ?_
  show Ev X k_X0_inkArea (13, [some (vr 126), some (vi l), some (vi t), some (vi r), some (vi b), none, none, none], [vi (if P < r then P else r), vi (if l < 0 then 0 else l)]) (MS I J cc ss) _
  refine ev_cv rfl rfl rfl ⟨Nat.le_of_ble_eq_true rfl, Nat.le_of_ble_eq_true rfl⟩ (sp_columnMask X _ (if l < 0 then 0 else l) (if P < r then P else r) (by omega)) ?_
  show Ev X k_X0_inkArea (16, [some (vr 126), some (vi l), some (vi t), some (vi r), some (vi b), none, none, none], [vi (colM (if l < 0 then 0 else l) (if P < r then P else r))]) (MS I J cc ss) _
  refine ev_n (fr' := (24, [some (vr 126), some (vi l), some (vi t), some (vi r), some (vi b), some (vi (colM (if l < 0 then 0 else l) (if P < r then P else r))), none, none], [vi (I 126 1), vi b])) (S' := MS I J cc ss) 4 rfl ?_
  refine ev_eqi (hD.1) ?_
  show Ev X k_X0_inkArea (24, [some (vr 126), some (vi l), some (vi t), some (vi r), some (vi b), some (vi (colM (if l < 0 then 0 else l) (if P < r then P else r))), none, none], [vi P, vi b]) (MS I J cc ss) _
  refine ev_cv rfl rfl rfl ⟨Nat.le_of_ble_eq_true rfl, Nat.le_of_ble_eq_true rfl⟩ (sp_min X _ b P ) ?_
  show Ev X k_X0_inkArea (27, [some (vr 126), some (vi l), some (vi t), some (vi r), some (vi b), some (vi (colM (if l < 0 then 0 else l) (if P < r then P else r))), none, none], [vi (if P < b then P else b)]) (MS I J cc ss) _
  refine ev_n (fr' := (31, [some (vr 126), some (vi l), some (vi t), some (vi r), some (vi b), some (vi (colM (if l < 0 then 0 else l) (if P < r then P else r))), some (vi (if P < b then P else b)), none], [vi 0, vi t])) (S' := MS I J cc ss) 3 rfl ?_
  refine ev_cv rfl rfl rfl ⟨Nat.le_of_ble_eq_true rfl, Nat.le_of_ble_eq_true rfl⟩ (sp_max X _ t 0 ) ?_
  show Ev X k_X0_inkArea (34, [some (vr 126), some (vi l), some (vi t), some (vi r), some (vi b), some (vi (colM (if l < 0 then 0 else l) (if P < r then P else r))), some (vi (if P < b then P else b)), none], [vi (if t < 0 then 0 else t)]) (MS I J cc ss) _
  refine ev_n (fr' := (36, [some (vr 126), some (vi l), some (vi t), some (vi r), some (vi b), some (vi (colM (if l < 0 then 0 else l) (if P < r then P else r))), some (vi (if P < b then P else b)), some (vi (if t < 0 then 0 else t))], [])) (S' := MS I J cc ss) 1 rfl ?_
  obtain ⟨t0, ht0⟩ : ∃ t0 : Nat, (if t < 0 then 0 else t) = (t0 : Int) := ⟨(if t < 0 then 0 else t).toNat, by omega⟩
  rw [ht0]
  refine (lp_inkArea_126 X I J cc ss l t r b I t0 t0 hQ hD.1 (by omega) ⟨Nat.le_refl _, Or.inl rfl⟩ (fun a _ => rfl) (fun q => by rw [if_neg (by omega)])).mono ?_
  rintro o T ⟨I', J', rfl, rfl, hJ, hF, hR⟩
  refine ⟨I', J', rfl, rfl, hJ, fun a h1 h2 => hF a h2, ?_, ?_, ?_⟩
  · rw [hF 126 (by decide)]; exact hD.1
  · rw [hF 126 (by decide)]; exact hD.2.1
  · intro q hq
    have h9 := hD.2.2 q hq
    rw [hR q]
    by_cases h : t0 ≤ q ∧ (q : Int) < (if P < b then P else b)
    · rw [if_pos h]
      refine ⟨opI_rng _ _ _, fun c hc => ?_⟩
      rw [bt_or, h9.2 c hc, bt_colM (by omega) (by omega) hc]
      congr 1
      unfold areaB
      rw [decide_eq_decide]
      omega
    · rw [if_neg h]
      refine ⟨h9.1, fun c hc => ?_⟩
      rw [h9.2 c hc]
      show D q c = (D q c || areaB l t r b P q c)
      rw [show areaB l t r b P q c = false from decide_eq_false (by omega), Bool.or_false]
theorem sp_inkOutline_126 (X : AX) (I J : Nat → Nat → Int) (cc ss : Nat) {D : Nat → Nat → Bool} {P e : Int} (l t r b s : Int) (hD : DR I 126 P e D) (hQ : 0 ≤ P ∧ P ≤ 32) (he : -2 ≤ e ∧ e ≤ 2) (hl : -400 ≤ l ∧ l ≤ 400) (ht : -400 ≤ t ∧ t ≤ 400) (hr : -400 ≤ r ∧ r ≤ 400) (hb : -400 ≤ b ∧ b ≤ 400) (hs : 0 ≤ s ∧ s ≤ 400) : Ev X k_X0_inkOutline (0, [some (vr 126), some (vi l), some (vi t), some (vi r), some (vi b), some (vi s)], []) (MS I J cc ss) (PV cc ss none (fun I' J' => J' = J ∧ onlyD 126 I I' ∧ DR I' 126 P e (fun y x => D y x || boxB l t r b s P y x))) := by
  have hO := onlyD.refl 126 I
  refine ev_n (fr' := (7, [some (vr 126), some (vi l), some (vi t), some (vi r), some (vi b), some (vi s)], [vi s, vi l, vi r, vi t, vi l, vr 126])) (S' := MS I J cc ss) 6 rfl ?_
  refine ev_add (z := l + s) rfl (by omega) (by omega) (by omega) ?_
  show Ev X k_X0_inkOutline (8, [some (vr 126), some (vi l), some (vi t), some (vi r), some (vi b), some (vi s)], [vi (l + s), vi r, vi t, vi l, vr 126]) (MS I J cc ss) _
  refine ev_cv rfl rfl rfl ⟨Nat.le_of_ble_eq_true rfl, Nat.le_of_ble_eq_true rfl⟩ (sp_min X _ r (l + s) ) ?_
  show Ev X k_X0_inkOutline (11, [some (vr 126), some (vi l), some (vi t), some (vi r), some (vi b), some (vi s)], [vi (if l + s < r then l + s else r), vi t, vi l, vr 126]) (MS I J cc ss) _
  refine ev_n (fr' := (13, [some (vr 126), some (vi l), some (vi t), some (vi r), some (vi b), some (vi s)], [vi b, vi (if l + s < r then l + s else r), vi t, vi l, vr 126])) (S' := MS I J cc ss) 1 rfl ?_
  refine ev_cp rfl rfl rfl ⟨Nat.le_of_ble_eq_true rfl, Nat.le_of_ble_eq_true rfl⟩ (sp_inkArea_126 X _ _ _ _ l t (if l + s < r then l + s else r) b hD hQ he (by omega) (by omega) (by omega) (by omega)) (fun I1 J q3 => ?_)
  obtain ⟨rfl, rI1, hD⟩ := q3
  show Ev X k_X0_inkOutline (16, [some (vr 126), some (vi l), some (vi t), some (vi r), some (vi b), some (vi s)], []) (MS I1 J cc ss) _
  have hO := hO.trans rI1
  refine ev_n (fr' := (21, [some (vr 126), some (vi l), some (vi t), some (vi r), some (vi b), some (vi s)], [vi s, vi r, vi l, vr 126])) (S' := MS I1 J cc ss) 4 rfl ?_
  refine ev_sub (z := r - s) rfl (by omega) (by omega) (by omega) ?_
  show Ev X k_X0_inkOutline (22, [some (vr 126), some (vi l), some (vi t), some (vi r), some (vi b), some (vi s)], [vi (r - s), vi l, vr 126]) (MS I1 J cc ss) _
  refine ev_cv rfl rfl rfl ⟨Nat.le_of_ble_eq_true rfl, Nat.le_of_ble_eq_true rfl⟩ (sp_max X _ l (r - s) ) ?_
  show Ev X k_X0_inkOutline (25, [some (vr 126), some (vi l), some (vi t), some (vi r), some (vi b), some (vi s)], [vi (if l < r - s then r - s else l), vr 126]) (MS I1 J cc ss) _
  refine ev_n (fr' := (29, [some (vr 126), some (vi l), some (vi t), some (vi r), some (vi b), some (vi s)], [vi b, vi r, vi t, vi (if l < r - s then r - s else l), vr 126])) (S' := MS I1 J cc ss) 3 rfl ?_
  refine ev_cp rfl rfl rfl ⟨Nat.le_of_ble_eq_true rfl, Nat.le_of_ble_eq_true rfl⟩ (sp_inkArea_126 X _ _ _ _ (if l < r - s then r - s else l) t r b hD hQ he (by omega) (by omega) (by omega) (by omega)) (fun I4 J q6 => ?_)
  obtain ⟨rfl, rI4, hD⟩ := q6
  show Ev X k_X0_inkOutline (32, [some (vr 126), some (vi l), some (vi t), some (vi r), some (vi b), some (vi s)], []) (MS I4 J cc ss) _
  have hO := hO.trans rI4
  refine ev_n (fr' := (41, [some (vr 126), some (vi l), some (vi t), some (vi r), some (vi b), some (vi s)], [vi s, vi t, vi b, vi r, vi t, vi l, vr 126])) (S' := MS I4 J cc ss) 7 rfl ?_
  refine ev_add (z := t + s) rfl (by omega) (by omega) (by omega) ?_
  show Ev X k_X0_inkOutline (42, [some (vr 126), some (vi l), some (vi t), some (vi r), some (vi b), some (vi s)], [vi (t + s), vi b, vi r, vi t, vi l, vr 126]) (MS I4 J cc ss) _
  refine ev_cv rfl rfl rfl ⟨Nat.le_of_ble_eq_true rfl, Nat.le_of_ble_eq_true rfl⟩ (sp_min X _ b (t + s) ) ?_
  show Ev X k_X0_inkOutline (45, [some (vr 126), some (vi l), some (vi t), some (vi r), some (vi b), some (vi s)], [vi (if t + s < b then t + s else b), vi r, vi t, vi l, vr 126]) (MS I4 J cc ss) _
  refine ev_cp rfl rfl rfl ⟨Nat.le_of_ble_eq_true rfl, Nat.le_of_ble_eq_true rfl⟩ (sp_inkArea_126 X _ _ _ _ l t r (if t + s < b then t + s else b) hD hQ he (by omega) (by omega) (by omega) (by omega)) (fun I7 J q9 => ?_)
  obtain ⟨rfl, rI7, hD⟩ := q9
  show Ev X k_X0_inkOutline (48, [some (vr 126), some (vi l), some (vi t), some (vi r), some (vi b), some (vi s)], []) (MS I7 J cc ss) _
  have hO := hO.trans rI7
  refine ev_n (fr' := (55, [some (vr 126), some (vi l), some (vi t), some (vi r), some (vi b), some (vi s)], [vi s, vi b, vi t, vi l, vr 126])) (S' := MS I7 J cc ss) 5 rfl ?_
  refine ev_sub (z := b - s) rfl (by omega) (by omega) (by omega) ?_
  show Ev X k_X0_inkOutline (56, [some (vr 126), some (vi l), some (vi t), some (vi r), some (vi b), some (vi s)], [vi (b - s), vi t, vi l, vr 126]) (MS I7 J cc ss) _
  refine ev_cv rfl rfl rfl ⟨Nat.le_of_ble_eq_true rfl, Nat.le_of_ble_eq_true rfl⟩ (sp_max X _ t (b - s) ) ?_
  show Ev X k_X0_inkOutline (59, [some (vr 126), some (vi l), some (vi t), some (vi r), some (vi b), some (vi s)], [vi (if t < b - s then b - s else t), vi l, vr 126]) (MS I7 J cc ss) _
  refine ev_n (fr' := (62, [some (vr 126), some (vi l), some (vi t), some (vi r), some (vi b), some (vi s)], [vi b, vi r, vi (if t < b - s then b - s else t), vi l, vr 126])) (S' := MS I7 J cc ss) 2 rfl ?_
  refine ev_cp rfl rfl rfl ⟨Nat.le_of_ble_eq_true rfl, Nat.le_of_ble_eq_true rfl⟩ (sp_inkArea_126 X _ _ _ _ l (if t < b - s then b - s else t) r b hD hQ he (by omega) (by omega) (by omega) (by omega)) (fun I10 J q12 => ?_)
  obtain ⟨rfl, rI10, hD⟩ := q12
  show Ev X k_X0_inkOutline (65, [some (vr 126), some (vi l), some (vi t), some (vi r), some (vi b), some (vi s)], []) (MS I10 J cc ss) _
  have hO := hO.trans rI10
  refine ev_r rfl rfl rfl ?_
  refine ⟨_, _, rfl, rfl, rfl, hO, hD.congr (fun y x => ?_)⟩
  simp only [boxB, Bool.or_assoc]
theorem orow_step_128 {I I0 : F2} {t0 k : Nat} {m z : Int} (hR : ∀ q, I 129 q = if t0 ≤ q ∧ q < k then opI (· ||| ·) (I0 129 q) m else I0 129 q) (hk : t0 ≤ k) (hz : z = opI (· ||| ·) (I 129 k) m) : ∀ q, up2 I 129 k z 129 q = if t0 ≤ q ∧ q < k + 1 then opI (· ||| ·) (I0 129 q) m else I0 129 q := by
  intro q
  by_cases hq : q = k
  · subst hq
    rw [up2_same, if_pos ⟨hk, by omega⟩, hz, hR q, if_neg (by omega)]
  · rw [up2_ne2 _ _ _ _ hq, hR q]
    by_cases h : t0 ≤ q ∧ q < k
    · rw [if_pos h, if_pos ⟨h.1, by omega⟩]
    · rw [if_neg h, if_neg (by omega)]
theorem lp_inkArea_128 (X : AX) (I J : Nat → Nat → Int) (cc ss : Nat) {P : Int} (l t r b : Int) (I0 : F2) (t0 k : Nat) (hQ : 0 ≤ P ∧ P ≤ 32) (h1 : I0 128 1 = P) (h2 : t0 ≤ 2000) (htk : t0 ≤ k ∧ (k = t0 ∨ (k : Int) ≤ (if P < b then P else b))) (hF : ∀ a, a ≠ 129 → I a = I0 a) (hR : ∀ q, I 129 q = if t0 ≤ q ∧ q < k then opI (· ||| ·) (I0 129 q) (colM (if l < 0 then 0 else l) (if P < r then P else r)) else I0 129 q) : Ev X k_X0_inkArea (36, [some (vr 128), some (vi l), some (vi t), some (vi r), some (vi b), some (vi (colM (if l < 0 then 0 else l) (if P < r then P else r))), some (vi (if P < b then P else b)), some (vi (k : Int))], []) (MS I J cc ss) (PV cc ss none (fun I' J' => J' = J ∧ (∀ a, a ≠ 129 → I' a = I0 a) ∧ ∀ q, I' 129 q = if t0 ≤ q ∧ (q : Int) < (if P < b then P else b) then opI (· ||| ·) (I0 129 q) (colM (if l < 0 then 0 else l) (if P < r then P else r)) else I0 129 q)) := by
  refine ev_n (fr' := (40, [some (vr 128), some (vi l), some (vi t), some (vi r), some (vi b), some (vi (colM (if l < 0 then 0 else l) (if P < r then P else r))), some (vi (if P < b then P else b)), some (vi (k : Int))], [vi (if P < b then P else b), vi (k : Int)])) (S' := MS I J cc ss) 2 rfl ?_
  refine ev_ic (c := .ge) (off := 21) rfl (by decide) (fun (g1 : (if P < b then P else b) ≤ (k : Int)) => ?_) (fun (g1 : ¬ ((if P < b then P else b) ≤ (k : Int))) => ?_)
  · show Ev X k_X0_inkArea (61, [some (vr 128), some (vi l), some (vi t), some (vi r), some (vi b), some (vi (colM (if l < 0 then 0 else l) (if P < r then P else r))), some (vi (if P < b then P else b)), some (vi (k : Int))], []) (MS I J cc ss) _
    refine ev_r rfl rfl rfl ?_
    refine ⟨_, _, rfl, rfl, rfl, hF, fun q => ?_⟩
    rw [hR q]
    by_cases h : t0 ≤ q ∧ q < k
    · rw [if_pos h, if_pos (show t0 ≤ q ∧ (q : Int) < (if P < b then P else b) from ⟨h.1, by omega⟩)]
    · rw [if_neg h, if_neg (show ¬ (t0 ≤ q ∧ (q : Int) < (if P < b then P else b)) by omega)]
  · show Ev X k_X0_inkArea (43, [some (vr 128), some (vi l), some (vi t), some (vi r), some (vi b), some (vi (colM (if l < 0 then 0 else l) (if P < r then P else r))), some (vi (if P < b then P else b)), some (vi (k : Int))], []) (MS I J cc ss) _
    refine ev_n (fr' := (50, [some (vr 128), some (vi l), some (vi t), some (vi r), some (vi b), some (vi (colM (if l < 0 then 0 else l) (if P < r then P else r))), some (vi (if P < b then P else b)), some (vi (k : Int))], [vi (k : Int), vr 129, vi (k : Int), vr 129])) (S' := MS I J cc ss) 4 rfl ?_
    refine ev_iaN (j := k) (z := (I 129 k)) rfl rfl (by omega) (by omega) (rfl) ?_
    show Ev X k_X0_inkArea (51, [some (vr 128), some (vi l), some (vi t), some (vi r), some (vi b), some (vi (colM (if l < 0 then 0 else l) (if P < r then P else r))), some (vi (if P < b then P else b)), some (vi (k : Int))], [vi (I 129 k), vi (k : Int), vr 129]) (MS I J cc ss) _
    refine ev_n (fr' := (54, [some (vr 128), some (vi l), some (vi t), some (vi r), some (vi b), some (vi (colM (if l < 0 then 0 else l) (if P < r then P else r))), some (vi (if P < b then P else b)), some (vi (k : Int))], [vi (opI (· ||| ·) (I 129 k) (colM (if l < 0 then 0 else l) (if P < r then P else r))), vi (k : Int), vr 129])) (S' := MS I J cc ss) 2 rfl ?_
    refine ev_iasN (j := k) rfl rfl (by omega) (by omega) ?_
    show Ev X k_X0_inkArea (55, [some (vr 128), some (vi l), some (vi t), some (vi r), some (vi b), some (vi (colM (if l < 0 then 0 else l) (if P < r then P else r))), some (vi (if P < b then P else b)), some (vi (k : Int))], []) (MS (up2 I 129 k (opI (· ||| ·) (I 129 k) (colM (if l < 0 then 0 else l) (if P < r then P else r)))) J cc ss) _
    refine ev_inc (z := (k : Int) + 1) rfl rfl (by omega) (by omega) (by omega) rfl ?_
    show Ev X k_X0_inkArea (58, [some (vr 128), some (vi l), some (vi t), some (vi r), some (vi b), some (vi (colM (if l < 0 then 0 else l) (if P < r then P else r))), some (vi (if P < b then P else b)), some (vi ((k : Int) + 1))], []) (MS (up2 I 129 k (opI (· ||| ·) (I 129 k) (colM (if l < 0 then 0 else l) (if P < r then P else r)))) J cc ss) _
    refine ev_n (fr' := (36, [some (vr 128), some (vi l), some (vi t), some (vi r), some (vi b), some (vi (colM (if l < 0 then 0 else l) (if P < r then P else r))), some (vi (if P < b then P else b)), some (vi ((k : Int) + 1))], [])) (S' := MS (up2 I 129 k (opI (· ||| ·) (I 129 k) (colM (if l < 0 then 0 else l) (if P < r then P else r)))) J cc ss) 1 rfl ?_
    exact lp_inkArea_128 X _ J cc ss l t r b I0 t0 (k + 1) hQ h1 h2 (by omega) (fun a ha => by rw [up2_row _ _ _ _ ha]; exact hF a ha) (orow_step_128 hR htk.1 rfl)
termination_by 3000 - k
decreasing_by all_goals omega
theorem sp_inkArea_128 (X : AX) (I J : Nat → Nat → Int) (cc ss : Nat) {D : Nat → Nat → Bool} {P e : Int} (l t r b : Int) (hD : DR I 128 P e D) (hQ : 0 ≤ P ∧ P ≤ 32) (he : -2 ≤ e ∧ e ≤ 2) (hl : -1000 ≤ l ∧ l ≤ 1000) (ht : -1000 ≤ t ∧ t ≤ 1000) (hr : -1000 ≤ r ∧ r ≤ 1000) (hb : -1000 ≤ b ∧ b ≤ 1000) : Ev X k_X0_inkArea (0, [some (vr 128), some (vi l), some (vi t), some (vi r), some (vi b), none, none, none], []) (MS I J cc ss) (PV cc ss none (fun I' J' => J' = J ∧ onlyD 128 I I' ∧ DR I' 128 P e (fun y x => D y x || areaB l t r b P y x))) := by
  refine ev_n (fr' := (2, [some (vr 128), some (vi l), some (vi t), some (vi r), some (vi b), none, none, none], [vi 0, vi l])) (S' := MS I J cc ss) 2 rfl ?_
  refine ev_cv rfl rfl rfl ⟨Nat.le_of_ble_eq_true rfl, Nat.le_of_ble_eq_true rfl⟩ (sp_max X _ l 0 ) ?_
  show Ev X k_X0_inkArea (5, [some (vr 128), some (vi l), some (vi t), some (vi r), some (vi b), none, none, none], [vi (if l < 0 then 0 else l)]) (MS I J cc ss) _
  refine ev_n (fr' := (10, [some (vr 128), some (vi l), some (vi t), some (vi r), some (vi b), none, none, none], [vi (I 128 1), vi r, vi (if l < 0 then 0 else l)])) (S' := MS I J cc ss) 3 rfl ?_
  refine ev_eqi (hD.1) ?_
  show Ev X k_X0_inkArea (10, [some (vr 128), some (vi l), some (vi t), some (vi r), some (vi b), none, none, none], [vi P, vi r, vi (if l < 0 then 0 else l)]) (MS I J cc ss) _
  refine ev_cv rfl rfl rfl ⟨Nat.le_of_ble_eq_true rfl, Nat.le_of_ble_eq_true rfl⟩ (sp_min X _ r P ) ?_
  show Ev X k_X0_inkArea (13, [some (vr 128), some (vi l), some (vi t), some (vi r), some (vi b), none, none, none], [vi (if P < r then P else r), vi (if l < 0 then 0 else l)]) (MS I J cc ss) _
  refine ev_cv rfl rfl rfl ⟨Nat.le_of_ble_eq_true rfl, Nat.le_of_ble_eq_true rfl⟩ (sp_columnMask X _ (if l < 0 then 0 else l) (if P < r then P else r) (by omega)) ?_
  show Ev X k_X0_inkArea (16, [some (vr 128), some (vi l), some (vi t), some (vi r), some (vi b), none, none, none], [vi (colM (if l < 0 then 0 else l) (if P < r then P else r))]) (MS I J cc ss) _
  refine ev_n (fr' := (24, [some (vr 128), some (vi l), some (vi t), some (vi r), some (vi b), some (vi (colM (if l < 0 then 0 else l) (if P < r then P else r))), none, none], [vi (I 128 1), vi b])) (S' := MS I J cc ss) 4 rfl ?_
  refine ev_eqi (hD.1) ?_
  show Ev X k_X0_inkArea (24, [some (vr 128), some (vi l), some (vi t), some (vi r), some (vi b), some (vi (colM (if l < 0 then 0 else l) (if P < r then P else r))), none, none], [vi P, vi b]) (MS I J cc ss) _
  refine ev_cv rfl rfl rfl ⟨Nat.le_of_ble_eq_true rfl, Nat.le_of_ble_eq_true rfl⟩ (sp_min X _ b P ) ?_
  show Ev X k_X0_inkArea (27, [some (vr 128), some (vi l), some (vi t), some (vi r), some (vi b), some (vi (colM (if l < 0 then 0 else l) (if P < r then P else r))), none, none], [vi (if P < b then P else b)]) (MS I J cc ss) _
  refine ev_n (fr' := (31, [some (vr 128), some (vi l), some (vi t), some (vi r), some (vi b), some (vi (colM (if l < 0 then 0 else l) (if P < r then P else r))), some (vi (if P < b then P else b)), none], [vi 0, vi t])) (S' := MS I J cc ss) 3 rfl ?_
  refine ev_cv rfl rfl rfl ⟨Nat.le_of_ble_eq_true rfl, Nat.le_of_ble_eq_true rfl⟩ (sp_max X _ t 0 ) ?_
  show Ev X k_X0_inkArea (34, [some (vr 128), some (vi l), some (vi t), some (vi r), some (vi b), some (vi (colM (if l < 0 then 0 else l) (if P < r then P else r))), some (vi (if P < b then P else b)), none], [vi (if t < 0 then 0 else t)]) (MS I J cc ss) _
  refine ev_n (fr' := (36, [some (vr 128), some (vi l), some (vi t), some (vi r), some (vi b), some (vi (colM (if l < 0 then 0 else l) (if P < r then P else r))), some (vi (if P < b then P else b)), some (vi (if t < 0 then 0 else t))], [])) (S' := MS I J cc ss) 1 rfl ?_
  obtain ⟨t0, ht0⟩ : ∃ t0 : Nat, (if t < 0 then 0 else t) = (t0 : Int) := ⟨(if t < 0 then 0 else t).toNat, by omega⟩
  rw [ht0]
  refine (lp_inkArea_128 X I J cc ss l t r b I t0 t0 hQ hD.1 (by omega) ⟨Nat.le_refl _, Or.inl rfl⟩ (fun a _ => rfl) (fun q => by rw [if_neg (by omega)])).mono ?_
  rintro o T ⟨I', J', rfl, rfl, hJ, hF, hR⟩
  refine ⟨I', J', rfl, rfl, hJ, fun a h1 h2 => hF a h2, ?_, ?_, ?_⟩
  · rw [hF 128 (by decide)]; exact hD.1
  · rw [hF 128 (by decide)]; exact hD.2.1
  · intro q hq
    have h9 := hD.2.2 q hq
    rw [hR q]
    by_cases h : t0 ≤ q ∧ (q : Int) < (if P < b then P else b)
    · rw [if_pos h]
      refine ⟨opI_rng _ _ _, fun c hc => ?_⟩
      rw [bt_or, h9.2 c hc, bt_colM (by omega) (by omega) hc]
      congr 1
      unfold areaB
      rw [decide_eq_decide]
      omega
    · rw [if_neg h]
      refine ⟨h9.1, fun c hc => ?_⟩
      rw [h9.2 c hc]
      show D q c = (D q c || areaB l t r b P q c)
      rw [show areaB l t r b P q c = false from decide_eq_false (by omega), Bool.or_false]
theorem sp_inkOutline_128 (X : AX) (I J : Nat → Nat → Int) (cc ss : Nat) {D : Nat → Nat → Bool} {P e : Int} (l t r b s : Int) (hD : DR I 128 P e D) (hQ : 0 ≤ P ∧ P ≤ 32) (he : -2 ≤ e ∧ e ≤ 2) (hl : -400 ≤ l ∧ l ≤ 400) (ht : -400 ≤ t ∧ t ≤ 400) (hr : -400 ≤ r ∧ r ≤ 400) (hb : -400 ≤ b ∧ b ≤ 400) (hs : 0 ≤ s ∧ s ≤ 400) : Ev X k_X0_inkOutline (0, [some (vr 128), some (vi l), some (vi t), some (vi r), some (vi b), some (vi s)], []) (MS I J cc ss) (PV cc ss none (fun I' J' => J' = J ∧ onlyD 128 I I' ∧ DR I' 128 P e (fun y x => D y x || boxB l t r b s P y x))) := by
  have hO := onlyD.refl 128 I
  refine ev_n (fr' := (7, [some (vr 128), some (vi l), some (vi t), some (vi r), some (vi b), some (vi s)], [vi s, vi l, vi r, vi t, vi l, vr 128])) (S' := MS I J cc ss) 6 rfl ?_
  refine ev_add (z := l + s) rfl (by omega) (by omega) (by omega) ?_
  show Ev X k_X0_inkOutline (8, [some (vr 128), some (vi l), some (vi t), some (vi r), some (vi b), some (vi s)], [vi (l + s), vi r, vi t, vi l, vr 128]) (MS I J cc ss) _
  refine ev_cv rfl rfl rfl ⟨Nat.le_of_ble_eq_true rfl, Nat.le_of_ble_eq_true rfl⟩ (sp_min X _ r (l + s) ) ?_
  show Ev X k_X0_inkOutline (11, [some (vr 128), some (vi l), some (vi t), some (vi r), some (vi b), some (vi s)], [vi (if l + s < r then l + s else r), vi t, vi l, vr 128]) (MS I J cc ss) _
  refine ev_n (fr' := (13, [some (vr 128), some (vi l), some (vi t), some (vi r), some (vi b), some (vi s)], [vi b, vi (if l + s < r then l + s else r), vi t, vi l, vr 128])) (S' := MS I J cc ss) 1 rfl ?_
  refine ev_cp rfl rfl rfl ⟨Nat.le_of_ble_eq_true rfl, Nat.le_of_ble_eq_true rfl⟩ (sp_inkArea_128 X _ _ _ _ l t (if l + s < r then l + s else r) b hD hQ he (by omega) (by omega) (by omega) (by omega)) (fun I1 J q3 => ?_)
  obtain ⟨rfl, rI1, hD⟩ := q3
  show Ev X k_X0_inkOutline (16, [some (vr 128), some (vi l), some (vi t), some (vi r), some (vi b), some (vi s)], []) (MS I1 J cc ss) _
  have hO := hO.trans rI1
  refine ev_n (fr' := (21, [some (vr 128), some (vi l), some (vi t), some (vi r), some (vi b), some (vi s)], [vi s, vi r, vi l, vr 128])) (S' := MS I1 J cc ss) 4 rfl ?_
  refine ev_sub (z := r - s) rfl (by omega) (by omega) (by omega) ?_
  show Ev X k_X0_inkOutline (22, [some (vr 128), some (vi l), some (vi t), some (vi r), some (vi b), some (vi s)], [vi (r - s), vi l, vr 128]) (MS I1 J cc ss) _
  refine ev_cv rfl rfl rfl ⟨Nat.le_of_ble_eq_true rfl, Nat.le_of_ble_eq_true rfl⟩ (sp_max X _ l (r - s) ) ?_
  show Ev X k_X0_inkOutline (25, [some (vr 128), some (vi l), some (vi t), some (vi r), some (vi b), some (vi s)], [vi (if l < r - s then r - s else l), vr 128]) (MS I1 J cc ss) _
  refine ev_n (fr' := (29, [some (vr 128), some (vi l), some (vi t), some (vi r), some (vi b), some (vi s)], [vi b, vi r, vi t, vi (if l < r - s then r - s else l), vr 128])) (S' := MS I1 J cc ss) 3 rfl ?_
  refine ev_cp rfl rfl rfl ⟨Nat.le_of_ble_eq_true rfl, Nat.le_of_ble_eq_true rfl⟩ (sp_inkArea_128 X _ _ _ _ (if l < r - s then r - s else l) t r b hD hQ he (by omega) (by omega) (by omega) (by omega)) (fun I4 J q6 => ?_)
  obtain ⟨rfl, rI4, hD⟩ := q6
  show Ev X k_X0_inkOutline (32, [some (vr 128), some (vi l), some (vi t), some (vi r), some (vi b), some (vi s)], []) (MS I4 J cc ss) _
  have hO := hO.trans rI4
  refine ev_n (fr' := (41, [some (vr 128), some (vi l), some (vi t), some (vi r), some (vi b), some (vi s)], [vi s, vi t, vi b, vi r, vi t, vi l, vr 128])) (S' := MS I4 J cc ss) 7 rfl ?_
  refine ev_add (z := t + s) rfl (by omega) (by omega) (by omega) ?_
  show Ev X k_X0_inkOutline (42, [some (vr 128), some (vi l), some (vi t), some (vi r), some (vi b), some (vi s)], [vi (t + s), vi b, vi r, vi t, vi l, vr 128]) (MS I4 J cc ss) _
  refine ev_cv rfl rfl rfl ⟨Nat.le_of_ble_eq_true rfl, Nat.le_of_ble_eq_true rfl⟩ (sp_min X _ b (t + s) ) ?_
  show Ev X k_X0_inkOutline (45, [some (vr 128), some (vi l), some (vi t), some (vi r), some (vi b), some (vi s)], [vi (if t + s < b then t + s else b), vi r, vi t, vi l, vr 128]) (MS I4 J cc ss) _
  refine ev_cp rfl rfl rfl ⟨Nat.le_of_ble_eq_true rfl, Nat.le_of_ble_eq_true rfl⟩ (sp_inkArea_128 X _ _ _ _ l t r (if t + s < b then t + s else b) hD hQ he (by omega) (by omega) (by omega) (by omega)) (fun I7 J q9 => ?_)
  obtain ⟨rfl, rI7, hD⟩ := q9
  show Ev X k_X0_inkOutline (48, [some (vr 128), some (vi l), some (vi t), some (vi r), some (vi b), some (vi s)], []) (MS I7 J cc ss) _
  have hO := hO.trans rI7
  refine ev_n (fr' := (55, [some (vr 128), some (vi l), some (vi t), some (vi r), some (vi b), some (vi s)], [vi s, vi b, vi t, vi l, vr 128])) (S' := MS I7 J cc ss) 5 rfl ?_
  refine ev_sub (z := b - s) rfl (by omega) (by omega) (by omega) ?_
  show Ev X k_X0_inkOutline (56, [some (vr 128), some (vi l), some (vi t), some (vi r), some (vi b), some (vi s)], [vi (b - s), vi t, vi l, vr 128]) (MS I7 J cc ss) _
  refine ev_cv rfl rfl rfl ⟨Nat.le_of_ble_eq_true rfl, Nat.le_of_ble_eq_true rfl⟩ (sp_max X _ t (b - s) ) ?_
  show Ev X k_X0_inkOutline (59, [some (vr 128), some (vi l), some (vi t), some (vi r), some (vi b), some (vi s)], [vi (if t < b - s then b - s else t), vi l, vr 128]) (MS I7 J cc ss) _
  refine ev_n (fr' := (62, [some (vr 128), some (vi l), some (vi t), some (vi r), some (vi b), some (vi s)], [vi b, vi r, vi (if t < b - s then b - s else t), vi l, vr 128])) (S' := MS I7 J cc ss) 2 rfl ?_
  refine ev_cp rfl rfl rfl ⟨Nat.le_of_ble_eq_true rfl, Nat.le_of_ble_eq_true rfl⟩ (sp_inkArea_128 X _ _ _ _ l (if t < b - s then b - s else t) r b hD hQ he (by omega) (by omega) (by omega) (by omega)) (fun I10 J q12 => ?_)
  obtain ⟨rfl, rI10, hD⟩ := q12
  show Ev X k_X0_inkOutline (65, [some (vr 128), some (vi l), some (vi t), some (vi r), some (vi b), some (vi s)], []) (MS I10 J cc ss) _
  have hO := hO.trans rI10
  refine ev_r rfl rfl rfl ?_
  refine ⟨_, _, rfl, rfl, rfl, hO, hD.congr (fun y x => ?_)⟩
  simp only [boxB, Bool.or_assoc]
theorem orow_step_130 {I I0 : F2} {t0 k : Nat} {m z : Int} (hR : ∀ q, I 131 q = if t0 ≤ q ∧ q < k then opI (· ||| ·) (I0 131 q) m else I0 131 q) (hk : t0 ≤ k) (hz : z = opI (· ||| ·) (I 131 k) m) : ∀ q, up2 I 131 k z 131 q = if t0 ≤ q ∧ q < k + 1 then opI (· ||| ·) (I0 131 q) m else I0 131 q := by
  intro q
  by_cases hq : q = k
  · subst hq
    rw [up2_same, if_pos ⟨hk, by omega⟩, hz, hR q, if_neg (by omega)]
  · rw [up2_ne2 _ _ _ _ hq, hR q]
    by_cases h : t0 ≤ q ∧ q < k
    · rw [if_pos h, if_pos ⟨h.1, by omega⟩]
    · rw [if_neg h, if_neg (by omega)]
theorem lp_inkArea_130 (X : AX) (I J : Nat → Nat → Int) (cc ss : Nat) {P : Int} (l t r b : Int) (I0 : F2) (t0 k : Nat) (hQ : 0 ≤ P ∧ P ≤ 32) (h1 : I0 130 1 = P) (h2 : t0 ≤ 2000) (htk : t0 ≤ k ∧ (k = t0 ∨ (k : Int) ≤ (if P < b then P else b))) (hF : ∀ a, a ≠ 131 → I a = I0 a) (hR : ∀ q, I 131 q = if t0 ≤ q ∧ q < k then opI (· ||| ·) (I0 131 q) (colM (if l < 0 then 0 else l) (if P < r then P else r)) else I0 131 q) : Ev X k_X0_inkArea (36, [some (vr 130), some (vi l), some (vi t), some (vi r), some (vi b), some (vi (colM (if l < 0 then 0 else l) (if P < r then P else r))), some (vi (if P < b then P else b)), some (vi (k : Int))], []) (MS I J cc ss) (PV cc ss none (fun I' J' => J' = J ∧ (∀ a, a ≠ 131 → I' a = I0 a) ∧ ∀ q, I' 131 q = if t0 ≤ q ∧ (q : Int) < (if P < b then P else b) then opI (· ||| ·) (I0 131 q) (colM (if l < 0 then 0 else l) (if P < r then P else r)) else I0 131 q)) := by
  refine ev_n (fr' := (40, [some (vr 130), some (vi l), some (vi t), some (vi r), some (vi b), some (vi (colM (if l < 0 then 0 else l) (if P < r then P else r))), some (vi (if P < b then P else b)), some (vi (k : Int))], [vi (if P < b then P else b), vi (k : Int)])) (S' := MS I J cc ss) 2 rfl ?_
  refine ev_ic (c := .ge) (off := 21) rfl (by decide) (fun (g1 : (if P < b then P else b) ≤ (k : Int)) => ?_) (fun (g1 : ¬ ((if P < b then P else b) ≤ (k : Int))) => ?_)
  · show Ev X k_X0_inkArea (61, [some (vr 130), some (vi l), some (vi t), some (vi r), some (vi b), some (vi (colM (if l < 0 then 0 else l) (if P < r then P else r))), some (vi (if P < b then P else b)), some (vi (k : Int))], []) (MS I J cc ss) _
    refine ev_r rfl rfl rfl ?_
    refine ⟨_, _, rfl, rfl, rfl, hF, fun q => ?_⟩
    rw [hR q]
    by_cases h : t0 ≤ q ∧ q < k
    · rw [if_pos h, if_pos (show t0 ≤ q ∧ (q : Int) < (if P < b then P else b) from ⟨h.1, by omega⟩)]
    · rw [if_neg h, if_neg (show ¬ (t0 ≤ q ∧ (q : Int) < (if P < b then P else b)) by omega)]
  · show Ev X k_X0_inkArea (43, [some (vr 130), some (vi l), some (vi t), some (vi r), some (vi b), some (vi (colM (if l < 0 then 0 else l) (if P < r then P else r))), some (vi (if P < b then P else b)), some (vi (k : Int))], []) (MS I J cc ss) _
    refine ev_n (fr' := (50, [some (vr 130), some (vi l), some (vi t), some (vi r), some (vi b), some (vi (colM (if l < 0 then 0 else l) (if P < r then P else r))), some (vi (if P < b then P else b)), some (vi (k : Int))], [vi (k : Int), vr 131, vi (k : Int), vr 131])) (S' := MS I J cc ss) 4 rfl ?_
    refine ev_iaN (j := k) (z := (I 131 k)) rfl rfl (by omega) (by omega) (rfl) ?_
    show Ev X k_X0_inkArea (51, [some (vr 130), some (vi l), some (vi t), some (vi r), some (vi b), some (vi (colM (if l < 0 then 0 else l) (if P < r then P else r))), some (vi (if P < b then P else b)), some (vi (k : Int))], [vi (I 131 k), vi (k : Int), vr 131]) (MS I J cc ss) _
    refine ev_n (fr' := (54, [some (vr 130), some (vi l), some (vi t), some (vi r), some (vi b), some (vi (colM (if l < 0 then 0 else l) (if P < r then P else r))), some (vi (if P < b then P else b)), some (vi (k : Int))], [vi (opI (· ||| ·) (I 131 k) (colM (if l < 0 then 0 else l) (if P < r then P else r))), vi (k : Int), vr 131])) (S' := MS I J cc ss) 2 rfl ?_
    refine ev_iasN (j := k) rfl rfl (by omega) (by omega) ?_
    show Ev X k_X0_inkArea (55, [some (vr 130), some (vi l), some (vi t), some (vi r), some (vi b), some (vi (colM (if l < 0 then 0 else l) (if P < r then P else r))), some (vi (if P < b then P else b)), some (vi (k : Int))], []) (MS (up2 I 131 k (opI (· ||| ·) (I 131 k) (colM (if l < 0 then 0 else l) (if P < r then P else r)))) J cc ss) _
    refine ev_inc (z := (k : Int) + 1) rfl rfl (by omega) (by omega) (by omega) rfl ?_
    show Ev X k_X0_inkArea (58, [some (vr 130), some (vi l), some (vi t), some (vi r), some (vi b), some (vi (colM (if l < 0 then 0 else l) (if P < r then P else r))), some (vi (if P < b then P else b)), some (vi ((k : Int) + 1))], []) (MS (up2 I 131 k (opI (· ||| ·) (I 131 k) (colM (if l < 0 then 0 else l) (if P < r then P else r)))) J cc ss) _
    refine ev_n (fr' := (36, [some (vr 130), some (vi l), some (vi t), some (vi r), some (vi b), some (vi (colM (if l < 0 then 0 else l) (if P < r then P else r))), some (vi (if P < b then P else b)), some (vi ((k : Int) + 1))], [])) (S' := MS (up2 I 131 k (opI (· ||| ·) (I 131 k) (colM (if l < 0 then 0 else l) (if P < r then P else r)))) J cc ss) 1 rfl ?_
    exact lp_inkArea_130 X _ J cc ss l t r b I0 t0 (k + 1) hQ h1 h2 (by omega) (fun a ha => by rw [up2_row _ _ _ _ ha]; exact hF a ha) (orow_step_130 hR htk.1 rfl)
termination_by 3000 - k
decreasing_by all_goals omega
theorem sp_inkArea_130 (X : AX) (I J : Nat → Nat → Int) (cc ss : Nat) {D : Nat → Nat → Bool} {P e : Int} (l t r b : Int) (hD : DR I 130 P e D) (hQ : 0 ≤ P ∧ P ≤ 32) (he : -2 ≤ e ∧ e ≤ 2) (hl : -1000 ≤ l ∧ l ≤ 1000) (ht : -1000 ≤ t ∧ t ≤ 1000) (hr : -1000 ≤ r ∧ r ≤ 1000) (hb : -1000 ≤ b ∧ b ≤ 1000) : Ev X k_X0_inkArea (0, [some (vr 130), some (vi l), some (vi t), some (vi r), some (vi b), none, none, none], []) (MS I J cc ss) (PV cc ss none (fun I' J' => J' = J ∧ onlyD 130 I I' ∧ DR I' 130 P e (fun y x => D y x || areaB l t r b P y x))) := by
  refine ev_n (fr' := (2, [some (vr 130), some (vi l), some (vi t), some (vi r), some (vi b), none, none, none], [vi 0, vi l])) (S' := MS I J cc ss) 2 rfl ?_
  refine ev_cv rfl rfl rfl ⟨Nat.le_of_ble_eq_true rfl, Nat.le_of_ble_eq_true rfl⟩ (sp_max X _ l 0 ) ?_
  show Ev X k_X0_inkArea (5, [some (vr 130), some (vi l), some (vi t), some (vi r), some (vi b), none, none, none], [vi (if l < 0 then 0 else l)]) (MS I J cc ss) _
  refine ev_n (fr' := (10, [some (vr 130), some (vi l), some (vi t), some (vi r), some (vi b), none, none, none], [vi (I 130 1), vi r, vi (if l < 0 then 0 else l)])) (S' := MS I J cc ss) 3 rfl ?_
  refine ev_eqi (hD.1) ?_
  show Ev X k_X0_inkArea (10, [some (vr 130), some (vi l), some (vi t), some (vi r), some (vi b), none, none, none], [vi P, vi r, vi (if l < 0 then 0 else l)]) (MS I J cc ss) _
  refine ev_cv rfl rfl rfl ⟨Nat.le_of_ble_eq_true rfl, Nat.le_of_ble_eq_true rfl⟩ (sp_min X _ r P ) ?_
  show Ev X k_X0_inkArea (13, [some (vr 130), some (vi l), some (vi t), some (vi r), some (vi b), none, none, none], [vi (if P < r then P else r), vi (if l < 0 then 0 else l)]) (MS I J cc ss) _
  refine ev_cv rfl rfl rfl ⟨Nat.le_of_ble_eq_true rfl, Nat.le_of_ble_eq_true rfl⟩ (sp_columnMask X _ (if l < 0 then 0 else l) (if P < r then P else r) (by omega)) ?_
  show Ev X k_X0_inkArea (16, [some (vr 130), some (vi l), some (vi t), some (vi r), some (vi b), none, none, none], [vi (colM (if l < 0 then 0 else l) (if P < r then P else r))]) (MS I J cc ss) _
  refine ev_n (fr' := (24, [some (vr 130), some (vi l), some (vi t), some (vi r), some (vi b), some (vi (colM (if l < 0 then 0 else l) (if P < r then P else r))), none, none], [vi (I 130 1), vi b])) (S' := MS I J cc ss) 4 rfl ?_
  refine ev_eqi (hD.1) ?_
  show Ev X k_X0_inkArea (24, [some (vr 130), some (vi l), some (vi t), some (vi r), some (vi b), some (vi (colM (if l < 0 then 0 else l) (if P < r then P else r))), none, none], [vi P, vi b]) (MS I J cc ss) _
  refine ev_cv rfl rfl rfl ⟨Nat.le_of_ble_eq_true rfl, Nat.le_of_ble_eq_true rfl⟩ (sp_min X _ b P ) ?_
  show Ev X k_X0_inkArea (27, [some (vr 130), some (vi l), some (vi t), some (vi r), some (vi b), some (vi (colM (if l < 0 then 0 else l) (if P < r then P else r))), none, none], [vi (if P < b then P else b)]) (MS I J cc ss) _
  refine ev_n (fr' := (31, [some (vr 130), some (vi l), some (vi t), some (vi r), some (vi b), some (vi (colM (if l < 0 then 0 else l) (if P < r then P else r))), some (vi (if P < b then P else b)), none], [vi 0, vi t])) (S' := MS I J cc ss) 3 rfl ?_
  refine ev_cv rfl rfl rfl ⟨Nat.le_of_ble_eq_true rfl, Nat.le_of_ble_eq_true rfl⟩ (sp_max X _ t 0 ) ?_
  show Ev X k_X0_inkArea (34, [some (vr 130), some (vi l), some (vi t), some (vi r), some (vi b), some (vi (colM (if l < 0 then 0 else l) (if P < r then P else r))), some (vi (if P < b then P else b)), none], [vi (if t < 0 then 0 else t)]) (MS I J cc ss) _
  refine ev_n (fr' := (36, [some (vr 130), some (vi l), some (vi t), some (vi r), some (vi b), some (vi (colM (if l < 0 then 0 else l) (if P < r then P else r))), some (vi (if P < b then P else b)), some (vi (if t < 0 then 0 else t))], [])) (S' := MS I J cc ss) 1 rfl ?_
  obtain ⟨t0, ht0⟩ : ∃ t0 : Nat, (if t < 0 then 0 else t) = (t0 : Int) := ⟨(if t < 0 then 0 else t).toNat, by omega⟩
  rw [ht0]
  refine (lp_inkArea_130 X I J cc ss l t r b I t0 t0 hQ hD.1 (by omega) ⟨Nat.le_refl _, Or.inl rfl⟩ (fun a _ => rfl) (fun q => by rw [if_neg (by omega)])).mono ?_
  rintro o T ⟨I', J', rfl, rfl, hJ, hF, hR⟩
  refine ⟨I', J', rfl, rfl, hJ, fun a h1 h2 => hF a h2, ?_, ?_, ?_⟩
  · rw [hF 130 (by decide)]; exact hD.1
  · rw [hF 130 (by decide)]; exact hD.2.1
  · intro q hq
    have h9 := hD.2.2 q hq
    rw [hR q]
    by_cases h : t0 ≤ q ∧ (q : Int) < (if P < b then P else b)
    · rw [if_pos h]
      refine ⟨opI_rng _ _ _, fun c hc => ?_⟩
      rw [bt_or, h9.2 c hc, bt_colM (by omega) (by omega) hc]
      congr 1
      unfold areaB
      rw [decide_eq_decide]
      omega
    · rw [if_neg h]
      refine ⟨h9.1, fun c hc => ?_⟩
      rw [h9.2 c hc]
      show D q c = (D q c || areaB l t r b P q c)
      rw [show areaB l t r b P q c = false from decide_eq_false (by omega), Bool.or_false]
theorem sp_inkOutline_130 (X : AX) (I J : Nat → Nat → Int) (cc ss : Nat) {D : Nat → Nat → Bool} {P e : Int} (l t r b s : Int) (hD : DR I 130 P e D) (hQ : 0 ≤ P ∧ P ≤ 32) (he : -2 ≤ e ∧ e ≤ 2) (hl : -400 ≤ l ∧ l ≤ 400) (ht : -400 ≤ t ∧ t ≤ 400) (hr : -400 ≤ r ∧ r ≤ 400) (hb : -400 ≤ b ∧ b ≤ 400) (hs : 0 ≤ s ∧ s ≤ 400) : Ev X k_X0_inkOutline (0, [some (vr 130), some (vi l), some (vi t), some (vi r), some (vi b), some (vi s)], []) (MS I J cc ss) (PV cc ss none (fun I' J' => J' = J ∧ onlyD 130 I I' ∧ DR I' 130 P e (fun y x => D y x || boxB l t r b s P y x))) := by
  have hO := onlyD.refl 130 I
  refine ev_n (fr' := (7, [some (vr 130), some (vi l), some (vi t), some (vi r), some (vi b), some (vi s)], [vi s, vi l, vi r, vi t, vi l, vr 130])) (S' := MS I J cc ss) 6 rfl ?_
  refine ev_add (z := l + s) rfl (by omega) (by omega) (by omega) ?_
  show Ev X k_X0_inkOutline (8, [some (vr 130), some (vi l), some (vi t), some (vi r), some (vi b), some (vi s)], [vi (l + s), vi r, vi t, vi l, vr 130]) (MS I J cc ss) _
  refine ev_cv rfl rfl rfl ⟨Nat.le_of_ble_eq_true rfl, Nat.le_of_ble_eq_true rfl⟩ (sp_min X _ r (l + s) ) ?_
  show Ev X k_X0_inkOutline (11, [some (vr 130), some (vi l), some (vi t), some (vi r), some (vi b), some (vi s)], [vi (if l + s < r then l + s else r), vi t, vi l, vr 130]) (MS I J cc ss) _
  refine ev_n (fr' := (13, [some (vr 130), some (vi l), some (vi t), some (vi r), some (vi b), some (vi s)], [vi b, vi (if l + s < r then l + s else r), vi t, vi l, vr 130])) (S' := MS I J cc ss) 1 rfl ?_
  refine ev_cp rfl rfl rfl ⟨Nat.le_of_ble_eq_true rfl, Nat.le_of_ble_eq_true rfl⟩ (sp_inkArea_130 X _ _ _ _ l t (if l + s < r then l + s else r) b hD hQ he (by omega) (by omega) (by omega) (by omega)) (fun I1 J q3 => ?_)
  obtain ⟨rfl, rI1, hD⟩ := q3
  show Ev X k_X0_inkOutline (16, [some (vr 130), some (vi l), some (vi t), some (vi r), some (vi b), some (vi s)], []) (MS I1 J cc ss) _
  have hO := hO.trans rI1
  refine ev_n (fr' := (21, [some (vr 130), some (vi l), some (vi t), some (vi r), some (vi b), some (vi s)], [vi s, vi r, vi l, vr 130])) (S' := MS I1 J cc ss) 4 rfl ?_
  refine ev_sub (z := r - s) rfl (by omega) (by omega) (by omega) ?_
  show Ev X k_X0_inkOutline (22, [some (vr 130), some (vi l), some (vi t), some (vi r), some (vi b), some (vi s)], [vi (r - s), vi l, vr 130]) (MS I1 J cc ss) _
  refine ev_cv rfl rfl rfl ⟨Nat.le_of_ble_eq_true rfl, Nat.le_of_ble_eq_true rfl⟩ (sp_max X _ l (r - s) ) ?_
  show Ev X k_X0_inkOutline (25, [some (vr 130), some (vi l), some (vi t), some (vi r), some (vi b), some (vi s)], [vi (if l < r - s then r - s else l), vr 130]) (MS I1 J cc ss) _
  refine ev_n (fr' := (29, [some (vr 130), some (vi l), some (vi t), some (vi r), some (vi b), some (vi s)], [vi b, vi r, vi t, vi (if l < r - s then r - s else l), vr 130])) (S' := MS I1 J cc ss) 3 rfl ?_
  refine ev_cp rfl rfl rfl ⟨Nat.le_of_ble_eq_true rfl, Nat.le_of_ble_eq_true rfl⟩ (sp_inkArea_130 X _ _ _ _ (if l < r - s then r - s else l) t r b hD hQ he (by omega) (by omega) (by omega) (by omega)) (fun I4 J q6 => ?_)
  obtain ⟨rfl, rI4, hD⟩ := q6
  show Ev X k_X0_inkOutline (32, [some (vr 130), some (vi l), some (vi t), some (vi r), some (vi b), some (vi s)], []) (MS I4 J cc ss) _
  have hO := hO.trans rI4
  refine ev_n (fr' := (41, [some (vr 130), some (vi l), some (vi t), some (vi r), some (vi b), some (vi s)], [vi s, vi t, vi b, vi r, vi t, vi l, vr 130])) (S' := MS I4 J cc ss) 7 rfl ?_
  refine ev_add (z := t + s) rfl (by omega) (by omega) (by omega) ?_
  show Ev X k_X0_inkOutline (42, [some (vr 130), some (vi l), some (vi t), some (vi r), some (vi b), some (vi s)], [vi (t + s), vi b, vi r, vi t, vi l, vr 130]) (MS I4 J cc ss) _
  refine ev_cv rfl rfl rfl ⟨Nat.le_of_ble_eq_true rfl, Nat.le_of_ble_eq_true rfl⟩ (sp_min X _ b (t + s) ) ?_
  show Ev X k_X0_inkOutline (45, [some (vr 130), some (vi l), some (vi t), some (vi r), some (vi b), some (vi s)], [vi (if t + s < b then t + s else b), vi r, vi t, vi l, vr 130]) (MS I4 J cc ss) _
  refine ev_cp rfl rfl rfl ⟨Nat.le_of_ble_eq_true rfl, Nat.le_of_ble_eq_true rfl⟩ (sp_inkArea_130 X _ _ _ _ l t r (if t + s < b then t + s else b) hD hQ he (by omega) (by omega) (by omega) (by omega)) (fun I7 J q9 => ?_)
  obtain ⟨rfl, rI7, hD⟩ := q9
  show Ev X k_X0_inkOutline (48, [some (vr 130), some (vi l), some (vi t), some (vi r), some (vi b), some (vi s)], []) (MS I7 J cc ss) _
  have hO := hO.trans rI7
  refine ev_n (fr' := (55, [some (vr 130), some (vi l), some (vi t), some (vi r), some (vi b), some (vi s)], [vi s, vi b, vi t, vi l, vr 130])) (S' := MS I7 J cc ss) 5 rfl ?_
  refine ev_sub (z := b - s) rfl (by omega) (by omega) (by omega) ?_
  show Ev X k_X0_inkOutline (56, [some (vr 130), some (vi l), some (vi t), some (vi r), some (vi b), some (vi s)], [vi (b - s), vi t, vi l, vr 130]) (MS I7 J cc ss) _
  refine ev_cv rfl rfl rfl ⟨Nat.le_of_ble_eq_true rfl, Nat.le_of_ble_eq_true rfl⟩ (sp_max X _ t (b - s) ) ?_
  show Ev X k_X0_inkOutline (59, [some (vr 130), some (vi l), some (vi t), some (vi r), some (vi b), some (vi s)], [vi (if t < b - s then b - s else t), vi l, vr 130]) (MS I7 J cc ss) _
  refine ev_n (fr' := (62, [some (vr 130), some (vi l), some (vi t), some (vi r), some (vi b), some (vi s)], [vi b, vi r, vi (if t < b - s then b - s else t), vi l, vr 130])) (S' := MS I7 J cc ss) 2 rfl ?_
  refine ev_cp rfl rfl rfl ⟨Nat.le_of_ble_eq_true rfl, Nat.le_of_ble_eq_true rfl⟩ (sp_inkArea_130 X _ _ _ _ l (if t < b - s then b - s else t) r b hD hQ he (by omega) (by omega) (by omega) (by omega)) (fun I10 J q12 => ?_)
  obtain ⟨rfl, rI10, hD⟩ := q12
  show Ev X k_X0_inkOutline (65, [some (vr 130), some (vi l), some (vi t), some (vi r), some (vi b), some (vi s)], []) (MS I10 J cc ss) _
  have hO := hO.trans rI10
  refine ev_r rfl rfl rfl ?_
  refine ⟨_, _, rfl, rfl, rfl, hO, hD.congr (fun y x => ?_)⟩
  simp only [boxB, Bool.or_assoc]
