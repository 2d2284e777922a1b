/-! LINES, START, class side (printed by gen/g34.py) -/
theorem mul_abs {a b A B : Int} (h1 : -A ≤ a) (h2 : a ≤ A) (h3 : -B ≤ b) (h4 : b ≤ B) : -(A * B) ≤ a * b ∧ a * b ≤ A * B := by
  have e1 := Int.mul_nonneg (show 0 ≤ A - a by omega) (show 0 ≤ B + b by omega)
  have e2 := Int.mul_nonneg (show 0 ≤ A + a by omega) (show 0 ≤ B - b by omega)
  have e3 := Int.mul_nonneg (show 0 ≤ A - a by omega) (show 0 ≤ B - b by omega)
  have e4 := Int.mul_nonneg (show 0 ≤ A + a by omega) (show 0 ≤ B + b by omega)
  simp only [Int.sub_mul, Int.add_mul, Int.mul_sub, Int.mul_add] at e1 e2 e3 e4
  omega
theorem half_I {x : Int} (h : 0 ≤ x ∧ x ≤ 100000) : opI (· / ·) x 2 = x / 2 := by
  rw [div_I ⟨by omega, by omega⟩ ⟨by omega, by omega⟩ (by omega), tdiv_pos (by omega) h.1]
theorem alongF_rng {k dist n : Int} (h1 : 0 ≤ k ∧ k ≤ n) (h2 : -n ≤ dist ∧ dist ≤ n) (h3 : n ≤ 400) : -n ≤ alongF k dist n ∧ alongF k dist n ≤ n := by
  unfold alongF
  by_cases hn : n ≤ 0
  · rw [if_pos hn]; omega
  · rw [if_neg hn]
    have e1 := mul_abs (a := k) (b := dist) (A := n) (B := n) (by omega) h1.2 h2.1 h2.2
    have e2 : 2 * k * dist = 2 * (k * dist) := Int.mul_assoc 2 k dist
    have hp : 0 < 2 * n := by omega
    constructor
    · rw [Int.le_ediv_iff_mul_le hp]
      have : -n * (2 * n) = -(2 * (n * n)) := by rw [Int.neg_mul, Int.mul_left_comm]
      omega
    · rw [← Int.lt_add_one_iff, Int.ediv_lt_iff_lt_mul hp, Int.add_mul]
      have : n * (2 * n) = 2 * (n * n) := by rw [Int.mul_left_comm]
      omega
theorem lineN_rng {x0 y0 x1 y1 : Int} (h0 : -134 ≤ x0 ∧ x0 ≤ 134) (h1 : -134 ≤ y0 ∧ y0 ≤ 134) (h2 : -134 ≤ x1 ∧ x1 ≤ 134) (h3 : -134 ≤ y1 ∧ y1 ≤ 134) : 0 ≤ lineN x0 y0 x1 y1 ∧ lineN x0 y0 x1 y1 ≤ 268 ∧ -lineN x0 y0 x1 y1 ≤ x1 - x0 ∧ x1 - x0 ≤ lineN x0 y0 x1 y1 ∧ -lineN x0 y0 x1 y1 ≤ y1 - y0 ∧ y1 - y0 ≤ lineN x0 y0 x1 y1 := by
  simp only [lineN, absF]; omega
theorem sp_alongLine (X : AX) (S : AS) (k : Int) (dist : Int) (n : Int) (hk : 0 ≤ k ∧ k ≤ 400) (hd : -400 ≤ dist ∧ dist ≤ 400) (hn : 0 ≤ n ∧ n ≤ 400) : Ev X k_X0_alongLine (0, [some (vi k), some (vi dist), some (vi n)], []) (S) (fun o T => o = .inl (some (vi (alongF k dist n))) ∧ T = S) := by
  have e1 := mul_abs (a := 2 * k) (b := dist) (A := 800) (B := 400) (by omega) (by omega) (by omega) (by omega)
  refine ev_n (fr' := (1, [some (vi k), some (vi dist), some (vi n)], [vi n])) (S' := S) 1 rfl ?_
  refine ev_if (c := .gt) (off := 7) rfl (by decide) (fun (g1 : 0 < n) => ?_) (fun (g1 : ¬ (0 < n)) => ?_)
  · show Ev X k_X0_alongLine (8, [some (vi k), some (vi dist), some (vi n)], []) (S) _
    refine ev_n (fr' := (10, [some (vi k), some (vi dist), some (vi n)], [vi k, vi 2])) (S' := S) 2 rfl ?_
    refine ev_mul (z := 2 * k) rfl (by omega) (by omega) (by omega) ?_
    show Ev X k_X0_alongLine (11, [some (vi k), some (vi dist), some (vi n)], [vi (2 * k)]) (S) _
    refine ev_n (fr' := (12, [some (vi k), some (vi dist), some (vi n)], [vi dist, vi (2 * k)])) (S' := S) 1 rfl ?_
    refine ev_mul (z := ((2 * k) * dist)) rfl (by omega) (by omega) (by omega) ?_
    show Ev X k_X0_alongLine (13, [some (vi k), some (vi dist), some (vi n)], [vi ((2 * k) * dist)]) (S) _
    refine ev_n (fr' := (14, [some (vi k), some (vi dist), some (vi n)], [vi n, vi ((2 * k) * dist)])) (S' := S) 1 rfl ?_
    refine ev_add (z := ((2 * k) * dist) + n) rfl (by omega) (by omega) (by omega) ?_
    show Ev X k_X0_alongLine (15, [some (vi k), some (vi dist), some (vi n)], [vi (((2 * k) * dist) + n)]) (S) _
    refine ev_n (fr' := (17, [some (vi k), some (vi dist), some (vi n)], [vi n, vi 2, vi (((2 * k) * dist) + n)])) (S' := S) 2 rfl ?_
    refine ev_mul (z := 2 * n) rfl (by omega) (by omega) (by omega) ?_
    show Ev X k_X0_alongLine (18, [some (vi k), some (vi dist), some (vi n)], [vi (2 * n), vi (((2 * k) * dist) + n)]) (S) _
    refine ev_cv rfl rfl rfl ⟨Nat.le_of_ble_eq_true rfl, Nat.le_of_ble_eq_true rfl⟩ (sp_floorDiv X _ (((2 * k) * dist) + n) (2 * n) (by omega) (by omega)) ?_
    show Ev X k_X0_alongLine (21, [some (vi k), some (vi dist), some (vi n)], [vi ((((2 * k) * dist) + n) / (2 * n))]) (S) _
    refine ev_r rfl rfl rfl ?_
    exact ⟨congrArg (fun z => Sum.inl (some (vi z))) (by unfold alongF; rw [if_neg (by omega)]), rfl⟩
  · show Ev X k_X0_alongLine (4, [some (vi k), some (vi dist), some (vi n)], []) (S) _
    refine ev_n (fr' := (21, [some (vi k), some (vi dist), some (vi n)], [vi 0])) (S' := S) 2 rfl ?_
    refine ev_r rfl rfl rfl ?_
    exact ⟨congrArg (fun z => Sum.inl (some (vi z))) (by unfold alongF; rw [if_pos (by omega)]), rfl⟩
theorem lp_start_126 (X : AX) (I J : Nat → Nat → Int) (cc ss : Nat) {P e : Int} (I0 : F2) (k : Nat) (hk : k ≤ 32) (h1 : I 126 1 = P) (h2 : I 126 2 = e) (hO : onlyD 126 I0 I) (hZ : ∀ q, q < k → I 127 q = 0) : Ev X k_X0_start (26, [some (vr 126), some (vi P), some (vi e), some (vi (k : Int))], []) (MS I J cc ss) (PV cc ss none (fun I' J' => J' = J ∧ onlyD 126 I0 I' ∧ DR I' 126 P e (fun _ _ => false))) := by
  refine ev_n (fr' := (29, [some (vr 126), some (vi P), some (vi e), some (vi (k : Int))], [vi 32, vi (k : Int)])) (S' := MS I J cc ss) 2 rfl ?_
  refine ev_ic (c := .ge) (off := 16) rfl (by decide) (fun (g1 : 32 ≤ (k : Int)) => ?_) (fun (g1 : ¬ (32 ≤ (k : Int))) => ?_)
  · show Ev X k_X0_start (45, [some (vr 126), some (vi P), some (vi e), some (vi (k : Int))], []) (MS I J cc ss) _
    refine ev_r rfl rfl rfl ?_
    exact ⟨_, _, rfl, rfl, rfl, hO, h1, h2, fun r hr => by rw [hZ r (by omega)]; exact ⟨⟨by omega, by omega⟩, fun c _ => bt_zero c⟩⟩
  · show Ev X k_X0_start (32, [some (vr 126), some (vi P), some (vi e), some (vi (k : Int))], []) (MS I J cc ss) _
    refine ev_n (fr' := (38, [some (vr 126), some (vi P), some (vi e), some (vi (k : Int))], [vi 0, vi (k : Int), vr 127])) (S' := MS I J cc ss) 4 rfl ?_
    refine ev_iasN (j := k) rfl rfl (by omega) (by omega) ?_
    show Ev X k_X0_start (39, [some (vr 126), some (vi P), some (vi e), some (vi (k : Int))], []) (MS (up2 I 127 k 0) J cc ss) _
    refine ev_inc (z := (k : Int) + 1) rfl rfl (by omega) (by omega) (by omega) rfl ?_
    show Ev X k_X0_start (42, [some (vr 126), some (vi P), some (vi e), some (vi ((k : Int) + 1))], []) (MS (up2 I 127 k 0) J cc ss) _
    refine ev_n (fr' := (26, [some (vr 126), some (vi P), some (vi e), some (vi ((k : Int) + 1))], [])) (S' := MS (up2 I 127 k 0) J cc ss) 1 rfl ?_
    exact lp_start_126 X _ J cc ss I0 (k + 1) (by omega) (by rw [up2_row _ _ _ _ (by decide)]; exact h1) (by rw [up2_row _ _ _ _ (by decide)]; exact h2) (fun a h3 h4 => by rw [up2_row _ _ _ _ h4]; exact hO a h3 h4) (fun q hq => by
      by_cases e : q = k
      · rw [e, up2_same]
      · rw [up2_ne2 _ _ _ _ e]; exact hZ q (by omega))
termination_by 32 - k
decreasing_by all_goals omega
theorem sp_start_126 (X : AX) (I J : Nat → Nat → Int) (cc ss : Nat) {P e : Int} (hQ : 0 ≤ P ∧ P ≤ 32) : Ev X k_X0_start (0, [some (vr 126), some (vi P), some (vi e), none], []) (MS I J cc ss) (PV cc ss none (fun I' J' => J' = J ∧ onlyD 126 I I' ∧ DR I' 126 P e (fun _ _ => false))) := by
  refine ev_n (fr' := (5, [some (vr 126), some (vi P), some (vi e), none], [vi 32, vi 0, vi P, vr 126])) (S' := MS I J cc ss) 4 rfl ?_
  refine ev_cv rfl rfl rfl ⟨Nat.le_of_ble_eq_true rfl, Nat.le_of_ble_eq_true rfl⟩ (sp_within X _ P 0 32 ) ?_
  show Ev X k_X0_start (8, [some (vr 126), some (vi P), some (vi e), none], [vi (if 0 ≤ P ∧ P ≤ 32 then 1 else 0), vr 126]) (MS I J cc ss) _
  refine ev_beq _ rfl (by decide) (fun (g1 : ¬ (0 ≤ P ∧ P ≤ 32)) => False.elim (by omega)) (fun (g1 : 0 ≤ P ∧ P ≤ 32) => ?_)
  show Ev X k_X0_start (11, [some (vr 126), some (vi P), some (vi e), none], [vr 126]) (MS I J cc ss) _
  refine ev_n (fr' := (16, [some (vr 126), some (vi P), some (vi e), none], [vi P, vr 126])) (S' := MS I J cc ss) 2 rfl ?_
  refine ev_n (fr' := (19, [some (vr 126), some (vi P), some (vi e), none], [])) (S' := MS (up2 I 126 1 P) J cc ss) 1 rfl ?_
  refine ev_n (fr' := (21, [some (vr 126), some (vi P), some (vi e), none], [vi e, vr 126])) (S' := MS (up2 I 126 1 P) J cc ss) 2 rfl ?_
  refine ev_n (fr' := (24, [some (vr 126), some (vi P), some (vi e), none], [])) (S' := MS (up2 (up2 I 126 1 P) 126 2 e) J cc ss) 1 rfl ?_
  refine ev_n (fr' := (26, [some (vr 126), some (vi P), some (vi e), some (vi 0)], [])) (S' := MS (up2 (up2 I 126 1 P) 126 2 e) J cc ss) 2 rfl ?_
  exact lp_start_126 X _ J cc ss I 0 (by omega) rfl rfl (fun a h3 h4 => by rw [up2_row _ _ _ _ h3, up2_row _ _ _ _ h3]) (fun q hq => absurd hq (by omega))
theorem lp_inkLine_126 (X : AX) (I J : Nat → Nat → Int) (cc ss : Nat) {D : Nat → Nat → Bool} {P e : Int} (x0 y0 x1 y1 s : Int) (I0 : F2) (k : Nat) (v9 v10 : Option AV) (hQ : 0 ≤ P ∧ P ≤ 32) (he : -2 ≤ e ∧ e ≤ 2) (h0 : -134 ≤ x0 ∧ x0 ≤ 134) (h1 : -134 ≤ y0 ∧ y0 ≤ 134) (h2 : -134 ≤ x1 ∧ x1 ≤ 134) (h3 : -134 ≤ y1 ∧ y1 ≤ 134) (h4 : 1 ≤ s ∧ s ≤ 136) (hk : (k : Int) ≤ lineN x0 y0 x1 y1 + 1) (hO : onlyD 126 I0 I) (hD : DR I 126 P e (fun y x => D y x || orN (fun q => dotB x0 y0 x1 y1 s P (lineN x0 y0 x1 y1) q y x) k)) : Ev X k_X0_inkLine (29, [some (vr 126), some (vi x0), some (vi y0), some (vi x1), some (vi y1), some (vi s), some (vi ((s - 1) / 2)), some (vi (lineN x0 y0 x1 y1)), some (vi (k : Int)), v9, v10], []) (MS I J cc ss) (PV cc ss none (fun I' J' => J' = J ∧ onlyD 126 I0 I' ∧ DR I' 126 P e (fun y x => D y x || lineB x0 y0 x1 y1 s P y x))) := by
  have hN := lineN_rng h0 h1 h2 h3
  refine ev_n (fr' := (33, [some (vr 126), some (vi x0), some (vi y0), some (vi x1), some (vi y1), some (vi s), some (vi ((s - 1) / 2)), some (vi (lineN x0 y0 x1 y1)), some (vi (k : Int)), v9, v10], [vi (lineN x0 y0 x1 y1), vi (k : Int)])) (S' := MS I J cc ss) 2 rfl ?_
  refine ev_ic (c := .gt) (off := 62) rfl (by decide) (fun (g1 : (lineN x0 y0 x1 y1) < (k : Int)) => ?_) (fun (g1 : ¬ ((lineN x0 y0 x1 y1) < (k : Int))) => ?_)
  · show Ev X k_X0_inkLine (95, [some (vr 126), some (vi x0), some (vi y0), some (vi x1), some (vi y1), some (vi s), some (vi ((s - 1) / 2)), some (vi (lineN x0 y0 x1 y1)), some (vi (k : Int)), v9, v10], []) (MS I J cc ss) _
    refine ev_r rfl rfl rfl ?_
    refine ⟨_, _, rfl, rfl, rfl, hO, hD.congr (fun y x => ?_)⟩
    unfold lineB; rw [show (lineN x0 y0 x1 y1).toNat + 1 = k by omega]
  · show Ev X k_X0_inkLine (36, [some (vr 126), some (vi x0), some (vi y0), some (vi x1), some (vi y1), some (vi s), some (vi ((s - 1) / 2)), some (vi (lineN x0 y0 x1 y1)), some (vi (k : Int)), v9, v10], []) (MS I J cc ss) _
    refine ev_n (fr' := (41, [some (vr 126), some (vi x0), some (vi y0), some (vi x1), some (vi y1), some (vi s), some (vi ((s - 1) / 2)), some (vi (lineN x0 y0 x1 y1)), some (vi (k : Int)), v9, v10], [vi x0, vi x1, vi (k : Int), vi x0])) (S' := MS I J cc ss) 4 rfl ?_
    refine ev_sub (z := x1 - x0) rfl (by omega) (by omega) (by omega) ?_
    show Ev X k_X0_inkLine (42, [some (vr 126), some (vi x0), some (vi y0), some (vi x1), some (vi y1), some (vi s), some (vi ((s - 1) / 2)), some (vi (lineN x0 y0 x1 y1)), some (vi (k : Int)), v9, v10], [vi (x1 - x0), vi (k : Int), vi x0]) (MS I J cc ss) _
    refine ev_n (fr' := (44, [some (vr 126), some (vi x0), some (vi y0), some (vi x1), some (vi y1), some (vi s), some (vi ((s - 1) / 2)), some (vi (lineN x0 y0 x1 y1)), some (vi (k : Int)), v9, v10], [vi (lineN x0 y0 x1 y1), vi (x1 - x0), vi (k : Int), vi x0])) (S' := MS I J cc ss) 1 rfl ?_
    refine ev_cv rfl rfl rfl ⟨Nat.le_of_ble_eq_true rfl, Nat.le_of_ble_eq_true rfl⟩ (sp_alongLine X _ (k : Int) (x1 - x0) (lineN x0 y0 x1 y1) (by omega) (by omega) (by omega)) ?_
    show Ev X k_X0_inkLine (47, [some (vr 126), some (vi x0), some (vi y0), some (vi x1), some (vi y1), some (vi s), some (vi ((s - 1) / 2)), some (vi (lineN x0 y0 x1 y1)), some (vi (k : Int)), v9, v10], [vi (alongF (k : Int) (x1 - x0) (lineN x0 y0 x1 y1)), vi x0]) (MS I J cc ss) _
    have := alongF_rng (k := (k : Int)) (dist := x1 - x0) (n := (lineN x0 y0 x1 y1)) (by omega) (by omega) (by omega)
    refine ev_add (z := x0 + (alongF (k : Int) (x1 - x0) (lineN x0 y0 x1 y1))) rfl (by omega) (by omega) (by omega) ?_
    show Ev X k_X0_inkLine (48, [some (vr 126), some (vi x0), some (vi y0), some (vi x1), some (vi y1), some (vi s), some (vi ((s - 1) / 2)), some (vi (lineN x0 y0 x1 y1)), some (vi (k : Int)), v9, v10], [vi (x0 + (alongF (k : Int) (x1 - x0) (lineN x0 y0 x1 y1)))]) (MS I J cc ss) _
    refine ev_n (fr' := (50, [some (vr 126), some (vi x0), some (vi y0), some (vi x1), some (vi y1), some (vi s), some (vi ((s - 1) / 2)), some (vi (lineN x0 y0 x1 y1)), some (vi (k : Int)), v9, v10], [vi ((s - 1) / 2), vi (x0 + (alongF (k : Int) (x1 - x0) (lineN x0 y0 x1 y1)))])) (S' := MS I J cc ss) 1 rfl ?_
    refine ev_sub (z := x0 + (alongF (k : Int) (x1 - x0) (lineN x0 y0 x1 y1)) - ((s - 1) / 2)) rfl (by omega) (by omega) (by omega) ?_
    show Ev X k_X0_inkLine (51, [some (vr 126), some (vi x0), some (vi y0), some (vi x1), some (vi y1), some (vi s), some (vi ((s - 1) / 2)), some (vi (lineN x0 y0 x1 y1)), some (vi (k : Int)), v9, v10], [vi (x0 + (alongF (k : Int) (x1 - x0) (lineN x0 y0 x1 y1)) - ((s - 1) / 2))]) (MS I J cc ss) _
    refine ev_n (fr' := (59, [some (vr 126), some (vi x0), some (vi y0), some (vi x1), some (vi y1), some (vi s), some (vi ((s - 1) / 2)), some (vi (lineN x0 y0 x1 y1)), some (vi (k : Int)), some (vi (x0 + (alongF (k : Int) (x1 - x0) (lineN x0 y0 x1 y1)) - ((s - 1) / 2))), v10], [vi y0, vi y1, vi (k : Int), vi y0])) (S' := MS I J cc ss) 5 rfl ?_
    refine ev_sub (z := y1 - y0) rfl (by omega) (by omega) (by omega) ?_
    show Ev X k_X0_inkLine (60, [some (vr 126), some (vi x0), some (vi y0), some (vi x1), some (vi y1), some (vi s), some (vi ((s - 1) / 2)), some (vi (lineN x0 y0 x1 y1)), some (vi (k : Int)), some (vi (x0 + (alongF (k : Int) (x1 - x0) (lineN x0 y0 x1 y1)) - ((s - 1) / 2))), v10], [vi (y1 - y0), vi (k : Int), vi y0]) (MS I J cc ss) _
    refine ev_n (fr' := (62, [some (vr 126), some (vi x0), some (vi y0), some (vi x1), some (vi y1), some (vi s), some (vi ((s - 1) / 2)), some (vi (lineN x0 y0 x1 y1)), some (vi (k : Int)), some (vi (x0 + (alongF (k : Int) (x1 - x0) (lineN x0 y0 x1 y1)) - ((s - 1) / 2))), v10], [vi (lineN x0 y0 x1 y1), vi (y1 - y0), vi (k : Int), vi y0])) (S' := MS I J cc ss) 1 rfl ?_
    refine ev_cv rfl rfl rfl ⟨Nat.le_of_ble_eq_true rfl, Nat.le_of_ble_eq_true rfl⟩ (sp_alongLine X _ (k : Int) (y1 - y0) (lineN x0 y0 x1 y1) (by omega) (by omega) (by omega)) ?_
    show Ev X k_X0_inkLine (65, [some (vr 126), some (vi x0), some (vi y0), some (vi x1), some (vi y1), some (vi s), some (vi ((s - 1) / 2)), some (vi (lineN x0 y0 x1 y1)), some (vi (k : Int)), some (vi (x0 + (alongF (k : Int) (x1 - x0) (lineN x0 y0 x1 y1)) - ((s - 1) / 2))), v10], [vi (alongF (k : Int) (y1 - y0) (lineN x0 y0 x1 y1)), vi y0]) (MS I J cc ss) _
    have := alongF_rng (k := (k : Int)) (dist := y1 - y0) (n := (lineN x0 y0 x1 y1)) (by omega) (by omega) (by omega)
    refine ev_add (z := y0 + (alongF (k : Int) (y1 - y0) (lineN x0 y0 x1 y1))) rfl (by omega) (by omega) (by omega) ?_
    show Ev X k_X0_inkLine (66, [some (vr 126), some (vi x0), some (vi y0), some (vi x1), some (vi y1), some (vi s), some (vi ((s - 1) / 2)), some (vi (lineN x0 y0 x1 y1)), some (vi (k : Int)), some (vi (x0 + (alongF (k : Int) (x1 - x0) (lineN x0 y0 x1 y1)) - ((s - 1) / 2))), v10], [vi (y0 + (alongF (k : Int) (y1 - y0) (lineN x0 y0 x1 y1)))]) (MS I J cc ss) _
    refine ev_n (fr' := (68, [some (vr 126), some (vi x0), some (vi y0), some (vi x1), some (vi y1), some (vi s), some (vi ((s - 1) / 2)), some (vi (lineN x0 y0 x1 y1)), some (vi (k : Int)), some (vi (x0 + (alongF (k : Int) (x1 - x0) (lineN x0 y0 x1 y1)) - ((s - 1) / 2))), v10], [vi ((s - 1) / 2), vi (y0 + (alongF (k : Int) (y1 - y0) (lineN x0 y0 x1 y1)))])) (S' := MS I J cc ss) 1 rfl ?_
    refine ev_sub (z := y0 + (alongF (k : Int) (y1 - y0) (lineN x0 y0 x1 y1)) - ((s - 1) / 2)) rfl (by omega) (by omega) (by omega) ?_
    show Ev X k_X0_inkLine (69, [some (vr 126), some (vi x0), some (vi y0), some (vi x1), some (vi y1), some (vi s), some (vi ((s - 1) / 2)), some (vi (lineN x0 y0 x1 y1)), some (vi (k : Int)), some (vi (x0 + (alongF (k : Int) (x1 - x0) (lineN x0 y0 x1 y1)) - ((s - 1) / 2))), v10], [vi (y0 + (alongF (k : Int) (y1 - y0) (lineN x0 y0 x1 y1)) - ((s - 1) / 2))]) (MS I J cc ss) _
    refine ev_n (fr' := (80, [some (vr 126), some (vi x0), some (vi y0), some (vi x1), some (vi y1), some (vi s), some (vi ((s - 1) / 2)), some (vi (lineN x0 y0 x1 y1)), some (vi (k : Int)), some (vi (x0 + (alongF (k : Int) (x1 - x0) (lineN x0 y0 x1 y1)) - ((s - 1) / 2))), some (vi (y0 + (alongF (k : Int) (y1 - y0) (lineN x0 y0 x1 y1)) - ((s - 1) / 2)))], [vi s, vi (x0 + (alongF (k : Int) (x1 - x0) (lineN x0 y0 x1 y1)) - ((s - 1) / 2)), vi (y0 + (alongF (k : Int) (y1 - y0) (lineN x0 y0 x1 y1)) - ((s - 1) / 2)), vi (x0 + (alongF (k : Int) (x1 - x0) (lineN x0 y0 x1 y1)) - ((s - 1) / 2)), vr 126])) (S' := MS I J cc ss) 6 rfl ?_
    refine ev_add (z := x0 + (alongF (k : Int) (x1 - x0) (lineN x0 y0 x1 y1)) + s - ((s - 1) / 2)) rfl (by omega) (by omega) (by omega) ?_
    show Ev X k_X0_inkLine (81, [some (vr 126), some (vi x0), some (vi y0), some (vi x1), some (vi y1), some (vi s), some (vi ((s - 1) / 2)), some (vi (lineN x0 y0 x1 y1)), some (vi (k : Int)), some (vi (x0 + (alongF (k : Int) (x1 - x0) (lineN x0 y0 x1 y1)) - ((s - 1) / 2))), some (vi (y0 + (alongF (k : Int) (y1 - y0) (lineN x0 y0 x1 y1)) - ((s - 1) / 2)))], [vi (x0 + (alongF (k : Int) (x1 - x0) (lineN x0 y0 x1 y1)) + s - ((s - 1) / 2)), vi (y0 + (alongF (k : Int) (y1 - y0) (lineN x0 y0 x1 y1)) - ((s - 1) / 2)), vi (x0 + (alongF (k : Int) (x1 - x0) (lineN x0 y0 x1 y1)) - ((s - 1) / 2)), vr 126]) (MS I J cc ss) _
    refine ev_n (fr' := (85, [some (vr 126), some (vi x0), some (vi y0), some (vi x1), some (vi y1), some (vi s), some (vi ((s - 1) / 2)), some (vi (lineN x0 y0 x1 y1)), some (vi (k : Int)), some (vi (x0 + (alongF (k : Int) (x1 - x0) (lineN x0 y0 x1 y1)) - ((s - 1) / 2))), some (vi (y0 + (alongF (k : Int) (y1 - y0) (lineN x0 y0 x1 y1)) - ((s - 1) / 2)))], [vi s, vi (y0 + (alongF (k : Int) (y1 - y0) (lineN x0 y0 x1 y1)) - ((s - 1) / 2)), vi (x0 + (alongF (k : Int) (x1 - x0) (lineN x0 y0 x1 y1)) + s - ((s - 1) / 2)), vi (y0 + (alongF (k : Int) (y1 - y0) (lineN x0 y0 x1 y1)) - ((s - 1) / 2)), vi (x0 + (alongF (k : Int) (x1 - x0) (lineN x0 y0 x1 y1)) - ((s - 1) / 2)), vr 126])) (S' := MS I J cc ss) 2 rfl ?_
    refine ev_add (z := y0 + (alongF (k : Int) (y1 - y0) (lineN x0 y0 x1 y1)) + s - ((s - 1) / 2)) rfl (by omega) (by omega) (by omega) ?_
    show Ev X k_X0_inkLine (86, [some (vr 126), some (vi x0), some (vi y0), some (vi x1), some (vi y1), some (vi s), some (vi ((s - 1) / 2)), some (vi (lineN x0 y0 x1 y1)), some (vi (k : Int)), some (vi (x0 + (alongF (k : Int) (x1 - x0) (lineN x0 y0 x1 y1)) - ((s - 1) / 2))), some (vi (y0 + (alongF (k : Int) (y1 - y0) (lineN x0 y0 x1 y1)) - ((s - 1) / 2)))], [vi (y0 + (alongF (k : Int) (y1 - y0) (lineN x0 y0 x1 y1)) + s - ((s - 1) / 2)), vi (x0 + (alongF (k : Int) (x1 - x0) (lineN x0 y0 x1 y1)) + s - ((s - 1) / 2)), vi (y0 + (alongF (k : Int) (y1 - y0) (lineN x0 y0 x1 y1)) - ((s - 1) / 2)), vi (x0 + (alongF (k : Int) (x1 - x0) (lineN x0 y0 x1 y1)) - ((s - 1) / 2)), vr 126]) (MS I J cc ss) _
    refine ev_cp rfl rfl rfl ⟨Nat.le_of_ble_eq_true rfl, Nat.le_of_ble_eq_true rfl⟩ (sp_inkArea_126 X _ _ _ _ (x0 + (alongF (k : Int) (x1 - x0) (lineN x0 y0 x1 y1)) - ((s - 1) / 2)) (y0 + (alongF (k : Int) (y1 - y0) (lineN x0 y0 x1 y1)) - ((s - 1) / 2)) (x0 + (alongF (k : Int) (x1 - x0) (lineN x0 y0 x1 y1)) + s - ((s - 1) / 2)) (y0 + (alongF (k : Int) (y1 - y0) (lineN x0 y0 x1 y1)) + s - ((s - 1) / 2)) hD hQ he (by omega) (by omega) (by omega) (by omega)) (fun I1 J q3 => ?_)
    obtain ⟨rfl, rI1, hD⟩ := q3
    show Ev X k_X0_inkLine (89, [some (vr 126), some (vi x0), some (vi y0), some (vi x1), some (vi y1), some (vi s), some (vi ((s - 1) / 2)), some (vi (lineN x0 y0 x1 y1)), some (vi (k : Int)), some (vi (x0 + (alongF (k : Int) (x1 - x0) (lineN x0 y0 x1 y1)) - ((s - 1) / 2))), some (vi (y0 + (alongF (k : Int) (y1 - y0) (lineN x0 y0 x1 y1)) - ((s - 1) / 2)))], []) (MS I1 J cc ss) _
    have hO := hO.trans rI1
    refine ev_inc (z := (k : Int) + 1) rfl rfl (by omega) (by omega) (by omega) rfl ?_
    show Ev X k_X0_inkLine (92, [some (vr 126), some (vi x0), some (vi y0), some (vi x1), some (vi y1), some (vi s), some (vi ((s - 1) / 2)), some (vi (lineN x0 y0 x1 y1)), some (vi ((k : Int) + 1)), some (vi (x0 + (alongF (k : Int) (x1 - x0) (lineN x0 y0 x1 y1)) - ((s - 1) / 2))), some (vi (y0 + (alongF (k : Int) (y1 - y0) (lineN x0 y0 x1 y1)) - ((s - 1) / 2)))], []) (MS I1 J cc ss) _
    refine ev_n (fr' := (29, [some (vr 126), some (vi x0), some (vi y0), some (vi x1), some (vi y1), some (vi s), some (vi ((s - 1) / 2)), some (vi (lineN x0 y0 x1 y1)), some (vi ((k : Int) + 1)), some (vi (x0 + (alongF (k : Int) (x1 - x0) (lineN x0 y0 x1 y1)) - ((s - 1) / 2))), some (vi (y0 + (alongF (k : Int) (y1 - y0) (lineN x0 y0 x1 y1)) - ((s - 1) / 2)))], [])) (S' := MS I1 J cc ss) 1 rfl ?_
    exact lp_inkLine_126 X _ _ cc ss x0 y0 x1 y1 s I0 (k + 1) _ _ hQ he h0 h1 h2 h3 h4 (by omega) hO (hD.congr (fun y x => Bool.or_assoc _ _ _))
termination_by 400 - k
decreasing_by all_goals omega
theorem sp_inkLine_126 (X : AX) (I J : Nat → Nat → Int) (cc ss : Nat) {D : Nat → Nat → Bool} {P e : Int} (x0 y0 x1 y1 s : Int) (hD : DR I 126 P e D) (hQ : 0 ≤ P ∧ P ≤ 32) (he : -2 ≤ e ∧ e ≤ 2) (h0 : -134 ≤ x0 ∧ x0 ≤ 134) (h1 : -134 ≤ y0 ∧ y0 ≤ 134) (h2 : -134 ≤ x1 ∧ x1 ≤ 134) (h3 : -134 ≤ y1 ∧ y1 ≤ 134) (h4 : 1 ≤ s ∧ s ≤ 136) : Ev X k_X0_inkLine (0, [some (vr 126), some (vi x0), some (vi y0), some (vi x1), some (vi y1), some (vi s), none, none, none, none, none], []) (MS I J cc ss) (PV cc ss none (fun I' J' => J' = J ∧ onlyD 126 I I' ∧ DR I' 126 P e (fun y x => D y x || lineB x0 y0 x1 y1 s P y x))) := by
  have hN := lineN_rng h0 h1 h2 h3
  refine ev_n (fr' := (3, [some (vr 126), some (vi x0), some (vi y0), some (vi x1), some (vi y1), some (vi s), none, none, none, none, none], [vi 1, vi s])) (S' := MS I J cc ss) 2 rfl ?_
  refine ev_sub (z := s - 1) rfl (by omega) (by omega) (by omega) ?_
  show Ev X k_X0_inkLine (4, [some (vr 126), some (vi x0), some (vi y0), some (vi x1), some (vi y1), some (vi s), none, none, none, none, none], [vi (s - 1)]) (MS I J cc ss) _
  refine ev_n (fr' := (6, [some (vr 126), some (vi x0), some (vi y0), some (vi x1), some (vi y1), some (vi s), none, none, none, none, none], [vi (opI (· / ·) (s - 1) 2)])) (S' := MS I J cc ss) 2 rfl ?_
  refine ev_eqi (half_I (by omega)) ?_
  show Ev X k_X0_inkLine (6, [some (vr 126), some (vi x0), some (vi y0), some (vi x1), some (vi y1), some (vi s), none, none, none, none, none], [vi ((s - 1) / 2)]) (MS I J cc ss) _
  refine ev_n (fr' := (10, [some (vr 126), some (vi x0), some (vi y0), some (vi x1), some (vi y1), some (vi s), some (vi ((s - 1) / 2)), none, none, none, none], [vi x0, vi x1])) (S' := MS I J cc ss) 3 rfl ?_
  refine ev_sub (z := x1 - x0) rfl (by omega) (by omega) (by omega) ?_
  show Ev X k_X0_inkLine (11, [some (vr 126), some (vi x0), some (vi y0), some (vi x1), some (vi y1), some (vi s), some (vi ((s - 1) / 2)), none, none, none, none], [vi (x1 - x0)]) (MS I J cc ss) _
  refine ev_cv rfl rfl rfl ⟨Nat.le_of_ble_eq_true rfl, Nat.le_of_ble_eq_true rfl⟩ (sp_abs X _ (x1 - x0) (by omega)) ?_
  show Ev X k_X0_inkLine (14, [some (vr 126), some (vi x0), some (vi y0), some (vi x1), some (vi y1), some (vi s), some (vi ((s - 1) / 2)), none, none, none, none], [vi (absF (x1 - x0))]) (MS I J cc ss) _
  refine ev_n (fr' := (17, [some (vr 126), some (vi x0), some (vi y0), some (vi x1), some (vi y1), some (vi s), some (vi ((s - 1) / 2)), none, none, none, none], [vi y0, vi y1, vi (absF (x1 - x0))])) (S' := MS I J cc ss) 2 rfl ?_
  refine ev_sub (z := y1 - y0) rfl (by omega) (by omega) (by omega) ?_
  show Ev X k_X0_inkLine (18, [some (vr 126), some (vi x0), some (vi y0), some (vi x1), some (vi y1), some (vi s), some (vi ((s - 1) / 2)), none, none, none, none], [vi (y1 - y0), vi (absF (x1 - x0))]) (MS I J cc ss) _
  refine ev_cv rfl rfl rfl ⟨Nat.le_of_ble_eq_true rfl, Nat.le_of_ble_eq_true rfl⟩ (sp_abs X _ (y1 - y0) (by omega)) ?_
  show Ev X k_X0_inkLine (21, [some (vr 126), some (vi x0), some (vi y0), some (vi x1), some (vi y1), some (vi s), some (vi ((s - 1) / 2)), none, none, none, none], [vi (absF (y1 - y0)), vi (absF (x1 - x0))]) (MS I J cc ss) _
  refine ev_cv rfl rfl rfl ⟨Nat.le_of_ble_eq_true rfl, Nat.le_of_ble_eq_true rfl⟩ (sp_max X _ (absF (x1 - x0)) (absF (y1 - y0)) ) ?_
  show Ev X k_X0_inkLine (24, [some (vr 126), some (vi x0), some (vi y0), some (vi x1), some (vi y1), some (vi s), some (vi ((s - 1) / 2)), none, none, none, none], [vi (lineN x0 y0 x1 y1)]) (MS I J cc ss) _
  refine ev_n (fr' := (29, [some (vr 126), some (vi x0), some (vi y0), some (vi x1), some (vi y1), some (vi s), some (vi ((s - 1) / 2)), some (vi (lineN x0 y0 x1 y1)), some (vi 0), none, none], [])) (S' := MS I J cc ss) 3 rfl ?_
  exact lp_inkLine_126 X _ _ cc ss x0 y0 x1 y1 s I 0 _ _ hQ he h0 h1 h2 h3 h4 (by omega) (onlyD.refl _ _) (hD.congr (fun y x => (Bool.or_false _).symm))
theorem lp_start_128 (X : AX) (I J : Nat → Nat → Int) (cc ss : Nat) {P e : Int} (I0 : F2) (k : Nat) (hk : k ≤ 32) (h1 : I 128 1 = P) (h2 : I 128 2 = e) (hO : onlyD 128 I0 I) (hZ : ∀ q, q < k → I 129 q = 0) : Ev X k_X0_start (26, [some (vr 128), some (vi P), some (vi e), some (vi (k : Int))], []) (MS I J cc ss) (PV cc ss none (fun I' J' => J' = J ∧ onlyD 128 I0 I' ∧ DR I' 128 P e (fun _ _ => false))) := by
  refine ev_n (fr' := (29, [some (vr 128), some (vi P), some (vi e), some (vi (k : Int))], [vi 32, vi (k : Int)])) (S' := MS I J cc ss) 2 rfl ?_
  refine ev_ic (c := .ge) (off := 16) rfl (by decide) (fun (g1 : 32 ≤ (k : Int)) => ?_) (fun (g1 : ¬ (32 ≤ (k : Int))) => ?_)
  · show Ev X k_X0_start (45, [some (vr 128), some (vi P), some (vi e), some (vi (k : Int))], []) (MS I J cc ss) _
    refine ev_r rfl rfl rfl ?_
    exact ⟨_, _, rfl, rfl, rfl, hO, h1, h2, fun r hr => by rw [hZ r (by omega)]; exact ⟨⟨by omega, by omega⟩, fun c _ => bt_zero c⟩⟩
  · show Ev X k_X0_start (32, [some (vr 128), some (vi P), some (vi e), some (vi (k : Int))], []) (MS I J cc ss) _
    refine ev_n (fr' := (38, [some (vr 128), some (vi P), some (vi e), some (vi (k : Int))], [vi 0, vi (k : Int), vr 129])) (S' := MS I J cc ss) 4 rfl ?_
    refine ev_iasN (j := k) rfl rfl (by omega) (by omega) ?_
    show Ev X k_X0_start (39, [some (vr 128), some (vi P), some (vi e), some (vi (k : Int))], []) (MS (up2 I 129 k 0) J cc ss) _
    refine ev_inc (z := (k : Int) + 1) rfl rfl (by omega) (by omega) (by omega) rfl ?_
    show Ev X k_X0_start (42, [some (vr 128), some (vi P), some (vi e), some (vi ((k : Int) + 1))], []) (MS (up2 I 129 k 0) J cc ss) _
    refine ev_n (fr' := (26, [some (vr 128), some (vi P), some (vi e), some (vi ((k : Int) + 1))], [])) (S' := MS (up2 I 129 k 0) J cc ss) 1 rfl ?_
    exact lp_start_128 X _ J cc ss I0 (k + 1) (by omega) (by rw [up2_row _ _ _ _ (by decide)]; exact h1) (by rw [up2_row _ _ _ _ (by decide)]; exact h2) (fun a h3 h4 => by rw [up2_row _ _ _ _ h4]; exact hO a h3 h4) (fun q hq => by
      by_cases e : q = k
      · rw [e, up2_same]
      · rw [up2_ne2 _ _ _ _ e]; exact hZ q (by omega))
termination_by 32 - k
decreasing_by all_goals omega
theorem sp_start_128 (X : AX) (I J : Nat → Nat → Int) (cc ss : Nat) {P e : Int} (hQ : 0 ≤ P ∧ P ≤ 32) : Ev X k_X0_start (0, [some (vr 128), some (vi P), some (vi e), none], []) (MS I J cc ss) (PV cc ss none (fun I' J' => J' = J ∧ onlyD 128 I I' ∧ DR I' 128 P e (fun _ _ => false))) := by
  refine ev_n (fr' := (5, [some (vr 128), some (vi P), some (vi e), none], [vi 32, vi 0, vi P, vr 128])) (S' := MS I J cc ss) 4 rfl ?_
  refine ev_cv rfl rfl rfl ⟨Nat.le_of_ble_eq_true rfl, Nat.le_of_ble_eq_true rfl⟩ (sp_within X _ P 0 32 ) ?_
  show Ev X k_X0_start (8, [some (vr 128), some (vi P), some (vi e), none], [vi (if 0 ≤ P ∧ P ≤ 32 then 1 else 0), vr 128]) (MS I J cc ss) _
  refine ev_beq _ rfl (by decide) (fun (g1 : ¬ (0 ≤ P ∧ P ≤ 32)) => False.elim (by omega)) (fun (g1 : 0 ≤ P ∧ P ≤ 32) => ?_)
  show Ev X k_X0_start (11, [some (vr 128), some (vi P), some (vi e), none], [vr 128]) (MS I J cc ss) _
  refine ev_n (fr' := (16, [some (vr 128), some (vi P), some (vi e), none], [vi P, vr 128])) (S' := MS I J cc ss) 2 rfl ?_
  refine ev_n (fr' := (19, [some (vr 128), some (vi P), some (vi e), none], [])) (S' := MS (up2 I 128 1 P) J cc ss) 1 rfl ?_
  refine ev_n (fr' := (21, [some (vr 128), some (vi P), some (vi e), none], [vi e, vr 128])) (S' := MS (up2 I 128 1 P) J cc ss) 2 rfl ?_
  refine ev_n (fr' := (24, [some (vr 128), some (vi P), some (vi e), none], [])) (S' := MS (up2 (up2 I 128 1 P) 128 2 e) J cc ss) 1 rfl ?_
  refine ev_n (fr' := (26, [some (vr 128), some (vi P), some (vi e), some (vi 0)], [])) (S' := MS (up2 (up2 I 128 1 P) 128 2 e) J cc ss) 2 rfl ?_
  exact lp_start_128 X _ J cc ss I 0 (by omega) rfl rfl (fun a h3 h4 => by rw [up2_row _ _ _ _ h3, up2_row _ _ _ _ h3]) (fun q hq => absurd hq (by omega))
theorem lp_inkLine_128 (X : AX) (I J : Nat → Nat → Int) (cc ss : Nat) {D : Nat → Nat → Bool} {P e : Int} (x0 y0 x1 y1 s : Int) (I0 : F2) (k : Nat) (v9 v10 : Option AV) (hQ : 0 ≤ P ∧ P ≤ 32) (he : -2 ≤ e ∧ e ≤ 2) (h0 : -134 ≤ x0 ∧ x0 ≤ 134) (h1 : -134 ≤ y0 ∧ y0 ≤ 134) (h2 : -134 ≤ x1 ∧ x1 ≤ 134) (h3 : -134 ≤ y1 ∧ y1 ≤ 134) (h4 : 1 ≤ s ∧ s ≤ 136) (hk : (k : Int) ≤ lineN x0 y0 x1 y1 + 1) (hO : onlyD 128 I0 I) (hD : DR I 128 P e (fun y x => D y x || orN (fun q => dotB x0 y0 x1 y1 s P (lineN x0 y0 x1 y1) q y x) k)) : Ev X k_X0_inkLine (29, [some (vr 128), some (vi x0), some (vi y0), some (vi x1), some (vi y1), some (vi s), some (vi ((s - 1) / 2)), some (vi (lineN x0 y0 x1 y1)), some (vi (k : Int)), v9, v10], []) (MS I J cc ss) (PV cc ss none (fun I' J' => J' = J ∧ onlyD 128 I0 I' ∧ DR I' 128 P e (fun y x => D y x || lineB x0 y0 x1 y1 s P y x))) := by
  have hN := lineN_rng h0 h1 h2 h3
  refine ev_n (fr' := (33, [some (vr 128), some (vi x0), some (vi y0), some (vi x1), some (vi y1), some (vi s), some (vi ((s - 1) / 2)), some (vi (lineN x0 y0 x1 y1)), some (vi (k : Int)), v9, v10], [vi (lineN x0 y0 x1 y1), vi (k : Int)])) (S' := MS I J cc ss) 2 rfl ?_
  refine ev_ic (c := .gt) (off := 62) rfl (by decide) (fun (g1 : (lineN x0 y0 x1 y1) < (k : Int)) => ?_) (fun (g1 : ¬ ((lineN x0 y0 x1 y1) < (k : Int))) => ?_)
  · show Ev X k_X0_inkLine (95, [some (vr 128), some (vi x0), some (vi y0), some (vi x1), some (vi y1), some (vi s), some (vi ((s - 1) / 2)), some (vi (lineN x0 y0 x1 y1)), some (vi (k : Int)), v9, v10], []) (MS I J cc ss) _
    refine ev_r rfl rfl rfl ?_
    refine ⟨_, _, rfl, rfl, rfl, hO, hD.congr (fun y x => ?_)⟩
    unfold lineB; rw [show (lineN x0 y0 x1 y1).toNat + 1 = k by omega]
  · show Ev X k_X0_inkLine (36, [some (vr 128), some (vi x0), some (vi y0), some (vi x1), some (vi y1), some (vi s), some (vi ((s - 1) / 2)), some (vi (lineN x0 y0 x1 y1)), some (vi (k : Int)), v9, v10], []) (MS I J cc ss) _
    refine ev_n (fr' := (41, [some (vr 128), some (vi x0), some (vi y0), some (vi x1), some (vi y1), some (vi s), some (vi ((s - 1) / 2)), some (vi (lineN x0 y0 x1 y1)), some (vi (k : Int)), v9, v10], [vi x0, vi x1, vi (k : Int), vi x0])) (S' := MS I J cc ss) 4 rfl ?_
    refine ev_sub (z := x1 - x0) rfl (by omega) (by omega) (by omega) ?_
    show Ev X k_X0_inkLine (42, [some (vr 128), some (vi x0), some (vi y0), some (vi x1), some (vi y1), some (vi s), some (vi ((s - 1) / 2)), some (vi (lineN x0 y0 x1 y1)), some (vi (k : Int)), v9, v10], [vi (x1 - x0), vi (k : Int), vi x0]) (MS I J cc ss) _
    refine ev_n (fr' := (44, [some (vr 128), some (vi x0), some (vi y0), some (vi x1), some (vi y1), some (vi s), some (vi ((s - 1) / 2)), some (vi (lineN x0 y0 x1 y1)), some (vi (k : Int)), v9, v10], [vi (lineN x0 y0 x1 y1), vi (x1 - x0), vi (k : Int), vi x0])) (S' := MS I J cc ss) 1 rfl ?_
    refine ev_cv rfl rfl rfl ⟨Nat.le_of_ble_eq_true rfl, Nat.le_of_ble_eq_true rfl⟩ (sp_alongLine X _ (k : Int) (x1 - x0) (lineN x0 y0 x1 y1) (by omega) (by omega) (by omega)) ?_
    show Ev X k_X0_inkLine (47, [some (vr 128), some (vi x0), some (vi y0), some (vi x1), some (vi y1), some (vi s), some (vi ((s - 1) / 2)), some (vi (lineN x0 y0 x1 y1)), some (vi (k : Int)), v9, v10], [vi (alongF (k : Int) (x1 - x0) (lineN x0 y0 x1 y1)), vi x0]) (MS I J cc ss) _
    have := alongF_rng (k := (k : Int)) (dist := x1 - x0) (n := (lineN x0 y0 x1 y1)) (by omega) (by omega) (by omega)
    refine ev_add (z := x0 + (alongF (k : Int) (x1 - x0) (lineN x0 y0 x1 y1))) rfl (by omega) (by omega) (by omega) ?_
    show Ev X k_X0_inkLine (48, [some (vr 128), some (vi x0), some (vi y0), some (vi x1), some (vi y1), some (vi s), some (vi ((s - 1) / 2)), some (vi (lineN x0 y0 x1 y1)), some (vi (k : Int)), v9, v10], [vi (x0 + (alongF (k : Int) (x1 - x0) (lineN x0 y0 x1 y1)))]) (MS I J cc ss) _
    refine ev_n (fr' := (50, [some (vr 128), some (vi x0), some (vi y0), some (vi x1), some (vi y1), some (vi s), some (vi ((s - 1) / 2)), some (vi (lineN x0 y0 x1 y1)), some (vi (k : Int)), v9, v10], [vi ((s - 1) / 2), vi (x0 + (alongF (k : Int) (x1 - x0) (lineN x0 y0 x1 y1)))])) (S' := MS I J cc ss) 1 rfl ?_
    refine ev_sub (z := x0 + (alongF (k : Int) (x1 - x0) (lineN x0 y0 x1 y1)) - ((s - 1) / 2)) rfl (by omega) (by omega) (by omega) ?_
    show Ev X k_X0_inkLine (51, [some (vr 128), some (vi x0), some (vi y0), some (vi x1), some (vi y1), some (vi s), some (vi ((s - 1) / 2)), some (vi (lineN x0 y0 x1 y1)), some (vi (k : Int)), v9, v10], [vi (x0 + (alongF (k : Int) (x1 - x0) (lineN x0 y0 x1 y1)) - ((s - 1) / 2))]) (MS I J cc ss) _
    refine ev_n (fr' := (59, [some (vr 128), some (vi x0), some (vi y0), some (vi x1), some (vi y1), some (vi s), some (vi ((s - 1) / 2)), some (vi (lineN x0 y0 x1 y1)), some (vi (k : Int)), some (vi (x0 + (alongF (k : Int) (x1 - x0) (lineN x0 y0 x1 y1)) - ((s - 1) / 2))), v10], [vi y0, vi y1, vi (k : Int), vi y0])) (S' := MS I J cc ss) 5 rfl ?_
    refine ev_sub (z := y1 - y0) rfl (by omega) (by omega) (by omega) ?_
    show Ev X k_X0_inkLine (60, [some (vr 128), some (vi x0), some (vi y0), some (vi x1), some (vi y1), some (vi s), some (vi ((s - 1) / 2)), some (vi (lineN x0 y0 x1 y1)), some (vi (k : Int)), some (vi (x0 + (alongF (k : Int) (x1 - x0) (lineN x0 y0 x1 y1)) - ((s - 1) / 2))), v10], [vi (y1 - y0), vi (k : Int), vi y0]) (MS I J cc ss) _
    refine ev_n (fr' := (62, [some (vr 128), some (vi x0), some (vi y0), some (vi x1), some (vi y1), some (vi s), some (vi ((s - 1) / 2)), some (vi (lineN x0 y0 x1 y1)), some (vi (k : Int)), some (vi (x0 + (alongF (k : Int) (x1 - x0) (lineN x0 y0 x1 y1)) - ((s - 1) / 2))), v10], [vi (lineN x0 y0 x1 y1), vi (y1 - y0), vi (k : Int), vi y0])) (S' := MS I J cc ss) 1 rfl ?_
    refine ev_cv rfl rfl rfl ⟨Nat.le_of_ble_eq_true rfl, Nat.le_of_ble_eq_true rfl⟩ (sp_alongLine X _ (k : Int) (y1 - y0) (lineN x0 y0 x1 y1) (by omega) (by omega) (by omega)) ?_
    show Ev X k_X0_inkLine (65, [some (vr 128), some (vi x0), some (vi y0), some (vi x1), some (vi y1), some (vi s), some (vi ((s - 1) / 2)), some (vi (lineN x0 y0 x1 y1)), some (vi (k : Int)), some (vi (x0 + (alongF (k : Int) (x1 - x0) (lineN x0 y0 x1 y1)) - ((s - 1) / 2))), v10], [vi (alongF (k : Int) (y1 - y0) (lineN x0 y0 x1 y1)), vi y0]) (MS I J cc ss) _
    have := alongF_rng (k := (k : Int)) (dist := y1 - y0) (n := (lineN x0 y0 x1 y1)) (by omega) (by omega) (by omega)
    refine ev_add (z := y0 + (alongF (k : Int) (y1 - y0) (lineN x0 y0 x1 y1))) rfl (by omega) (by omega) (by omega) ?_
    show Ev X k_X0_inkLine (66, [some (vr 128), some (vi x0), some (vi y0), some (vi x1), some (vi y1), some (vi s), some (vi ((s - 1) / 2)), some (vi (lineN x0 y0 x1 y1)), some (vi (k : Int)), some (vi (x0 + (alongF (k : Int) (x1 - x0) (lineN x0 y0 x1 y1)) - ((s - 1) / 2))), v10], [vi (y0 + (alongF (k : Int) (y1 - y0) (lineN x0 y0 x1 y1)))]) (MS I J cc ss) _
    refine ev_n (fr' := (68, [some (vr 128), some (vi x0), some (vi y0), some (vi x1), some (vi y1), some (vi s), some (vi ((s - 1) / 2)), some (vi (lineN x0 y0 x1 y1)), some (vi (k : Int)), some (vi (x0 + (alongF (k : Int) (x1 - x0) (lineN x0 y0 x1 y1)) - ((s - 1) / 2))), v10], [vi ((s - 1) / 2), vi (y0 + (alongF (k : Int) (y1 - y0) (lineN x0 y0 x1 y1)))])) (S' := MS I J cc ss) 1 rfl ?_
    refine ev_sub (z := y0 + (alongF (k : Int) (y1 - y0) (lineN x0 y0 x1 y1)) - ((s - 1) / 2)) rfl (by omega) (by omega) (by omega) ?_
    show Ev X k_X0_inkLine (69, [some (vr 128), some (vi x0), some (vi y0), some (vi x1), some (vi y1), some (vi s), some (vi ((s - 1) / 2)), some (vi (lineN x0 y0 x1 y1)), some (vi (k : Int)), some (vi (x0 + (alongF (k : Int) (x1 - x0) (lineN x0 y0 x1 y1)) - ((s - 1) / 2))), v10], [vi (y0 + (alongF (k : Int) (y1 - y0) (lineN x0 y0 x1 y1)) - ((s - 1) / 2))]) (MS I J cc ss) _
    refine ev_n (fr' := (80, [some (vr 128), some (vi x0), some (vi y0), some (vi x1), some (vi y1), some (vi s), some (vi ((s - 1) / 2)), some (vi (lineN x0 y0 x1 y1)), some (vi (k : Int)), some (vi (x0 + (alongF (k : Int) (x1 - x0) (lineN x0 y0 x1 y1)) - ((s - 1) / 2))), some (vi (y0 + (alongF (k : Int) (y1 - y0) (lineN x0 y0 x1 y1)) - ((s - 1) / 2)))], [vi s, vi (x0 + (alongF (k : Int) (x1 - x0) (lineN x0 y0 x1 y1)) - ((s - 1) / 2)), vi (y0 + (alongF (k : Int) (y1 - y0) (lineN x0 y0 x1 y1)) - ((s - 1) / 2)), vi (x0 + (alongF (k : Int) (x1 - x0) (lineN x0 y0 x1 y1)) - ((s - 1) / 2)), vr 128])) (S' := MS I J cc ss) 6 rfl ?_
    refine ev_add (z := x0 + (alongF (k : Int) (x1 - x0) (lineN x0 y0 x1 y1)) + s - ((s - 1) / 2)) rfl (by omega) (by omega) (by omega) ?_
    show Ev X k_X0_inkLine (81, [some (vr 128), some (vi x0), some (vi y0), some (vi x1), some (vi y1), some (vi s), some (vi ((s - 1) / 2)), some (vi (lineN x0 y0 x1 y1)), some (vi (k : Int)), some (vi (x0 + (alongF (k : Int) (x1 - x0) (lineN x0 y0 x1 y1)) - ((s - 1) / 2))), some (vi (y0 + (alongF (k : Int) (y1 - y0) (lineN x0 y0 x1 y1)) - ((s - 1) / 2)))], [vi (x0 + (alongF (k : Int) (x1 - x0) (lineN x0 y0 x1 y1)) + s - ((s - 1) / 2)), vi (y0 + (alongF (k : Int) (y1 - y0) (lineN x0 y0 x1 y1)) - ((s - 1) / 2)), vi (x0 + (alongF (k : Int) (x1 - x0) (lineN x0 y0 x1 y1)) - ((s - 1) / 2)), vr 128]) (MS I J cc ss) _
    refine ev_n (fr' := (85, [some (vr 128), some (vi x0), some (vi y0), some (vi x1), some (vi y1), some (vi s), some (vi ((s - 1) / 2)), some (vi (lineN x0 y0 x1 y1)), some (vi (k : Int)), some (vi (x0 + (alongF (k : Int) (x1 - x0) (lineN x0 y0 x1 y1)) - ((s - 1) / 2))), some (vi (y0 + (alongF (k : Int) (y1 - y0) (lineN x0 y0 x1 y1)) - ((s - 1) / 2)))], [vi s, vi (y0 + (alongF (k : Int) (y1 - y0) (lineN x0 y0 x1 y1)) - ((s - 1) / 2)), vi (x0 + (alongF (k : Int) (x1 - x0) (lineN x0 y0 x1 y1)) + s - ((s - 1) / 2)), vi (y0 + (alongF (k : Int) (y1 - y0) (lineN x0 y0 x1 y1)) - ((s - 1) / 2)), vi (x0 + (alongF (k : Int) (x1 - x0) (lineN x0 y0 x1 y1)) - ((s - 1) / 2)), vr 128])) (S' := MS I J cc ss) 2 rfl ?_
    refine ev_add (z := y0 + (alongF (k : Int) (y1 - y0) (lineN x0 y0 x1 y1)) + s - ((s - 1) / 2)) rfl (by omega) (by omega) (by omega) ?_
    show Ev X k_X0_inkLine (86, [some (vr 128), some (vi x0), some (vi y0), some (vi x1), some (vi y1), some (vi s), some (vi ((s - 1) / 2)), some (vi (lineN x0 y0 x1 y1)), some (vi (k : Int)), some (vi (x0 + (alongF (k : Int) (x1 - x0) (lineN x0 y0 x1 y1)) - ((s - 1) / 2))), some (vi (y0 + (alongF (k : Int) (y1 - y0) (lineN x0 y0 x1 y1)) - ((s - 1) / 2)))], [vi (y0 + (alongF (k : Int) (y1 - y0) (lineN x0 y0 x1 y1)) + s - ((s - 1) / 2)), vi (x0 + (alongF (k : Int) (x1 - x0) (lineN x0 y0 x1 y1)) + s - ((s - 1) / 2)), vi (y0 + (alongF (k : Int) (y1 - y0) (lineN x0 y0 x1 y1)) - ((s - 1) / 2)), vi (x0 + (alongF (k : Int) (x1 - x0) (lineN x0 y0 x1 y1)) - ((s - 1) / 2)), vr 128]) (MS I J cc ss) _
    refine ev_cp rfl rfl rfl ⟨Nat.le_of_ble_eq_true rfl, Nat.le_of_ble_eq_true rfl⟩ (sp_inkArea_128 X _ _ _ _ (x0 + (alongF (k : Int) (x1 - x0) (lineN x0 y0 x1 y1)) - ((s - 1) / 2)) (y0 + (alongF (k : Int) (y1 - y0) (lineN x0 y0 x1 y1)) - ((s - 1) / 2)) (x0 + (alongF (k : Int) (x1 - x0) (lineN x0 y0 x1 y1)) + s - ((s - 1) / 2)) (y0 + (alongF (k : Int) (y1 - y0) (lineN x0 y0 x1 y1)) + s - ((s - 1) / 2)) hD hQ he (by omega) (by omega) (by omega) (by omega)) (fun I1 J q3 => ?_)
    obtain ⟨rfl, rI1, hD⟩ := q3
    show Ev X k_X0_inkLine (89, [some (vr 128), some (vi x0), some (vi y0), some (vi x1), some (vi y1), some (vi s), some (vi ((s - 1) / 2)), some (vi (lineN x0 y0 x1 y1)), some (vi (k : Int)), some (vi (x0 + (alongF (k : Int) (x1 - x0) (lineN x0 y0 x1 y1)) - ((s - 1) / 2))), some (vi (y0 + (alongF (k : Int) (y1 - y0) (lineN x0 y0 x1 y1)) - ((s - 1) / 2)))], []) (MS I1 J cc ss) _
    have hO := hO.trans rI1
    refine ev_inc (z := (k : Int) + 1) rfl rfl (by omega) (by omega) (by omega) rfl ?_
    show Ev X k_X0_inkLine (92, [some (vr 128), some (vi x0), some (vi y0), some (vi x1), some (vi y1), some (vi s), some (vi ((s - 1) / 2)), some (vi (lineN x0 y0 x1 y1)), some (vi ((k : Int) + 1)), some (vi (x0 + (alongF (k : Int) (x1 - x0) (lineN x0 y0 x1 y1)) - ((s - 1) / 2))), some (vi (y0 + (alongF (k : Int) (y1 - y0) (lineN x0 y0 x1 y1)) - ((s - 1) / 2)))], []) (MS I1 J cc ss) _
    refine ev_n (fr' := (29, [some (vr 128), some (vi x0), some (vi y0), some (vi x1), some (vi y1), some (vi s), some (vi ((s - 1) / 2)), some (vi (lineN x0 y0 x1 y1)), some (vi ((k : Int) + 1)), some (vi (x0 + (alongF (k : Int) (x1 - x0) (lineN x0 y0 x1 y1)) - ((s - 1) / 2))), some (vi (y0 + (alongF (k : Int) (y1 - y0) (lineN x0 y0 x1 y1)) - ((s - 1) / 2)))], [])) (S' := MS I1 J cc ss) 1 rfl ?_
    exact lp_inkLine_128 X _ _ cc ss x0 y0 x1 y1 s I0 (k + 1) _ _ hQ he h0 h1 h2 h3 h4 (by omega) hO (hD.congr (fun y x => Bool.or_assoc _ _ _))
termination_by 400 - k
decreasing_by all_goals omega
theorem sp_inkLine_128 (X : AX) (I J : Nat → Nat → Int) (cc ss : Nat) {D : Nat → Nat → Bool} {P e : Int} (x0 y0 x1 y1 s : Int) (hD : DR I 128 P e D) (hQ : 0 ≤ P ∧ P ≤ 32) (he : -2 ≤ e ∧ e ≤ 2) (h0 : -134 ≤ x0 ∧ x0 ≤ 134) (h1 : -134 ≤ y0 ∧ y0 ≤ 134) (h2 : -134 ≤ x1 ∧ x1 ≤ 134) (h3 : -134 ≤ y1 ∧ y1 ≤ 134) (h4 : 1 ≤ s ∧ s ≤ 136) : Ev X k_X0_inkLine (0, [some (vr 128), some (vi x0), some (vi y0), some (vi x1), some (vi y1), some (vi s), none, none, none, none, none], []) (MS I J cc ss) (PV cc ss none (fun I' J' => J' = J ∧ onlyD 128 I I' ∧ DR I' 128 P e (fun y x => D y x || lineB x0 y0 x1 y1 s P y x))) := by
  have hN := lineN_rng h0 h1 h2 h3
  refine ev_n (fr' := (3, [some (vr 128), some (vi x0), some (vi y0), some (vi x1), some (vi y1), some (vi s), none, none, none, none, none], [vi 1, vi s])) (S' := MS I J cc ss) 2 rfl ?_
  refine ev_sub (z := s - 1) rfl (by omega) (by omega) (by omega) ?_
  show Ev X k_X0_inkLine (4, [some (vr 128), some (vi x0), some (vi y0), some (vi x1), some (vi y1), some (vi s), none, none, none, none, none], [vi (s - 1)]) (MS I J cc ss) _
  refine ev_n (fr' := (6, [some (vr 128), some (vi x0), some (vi y0), some (vi x1), some (vi y1), some (vi s), none, none, none, none, none], [vi (opI (· / ·) (s - 1) 2)])) (S' := MS I J cc ss) 2 rfl ?_
  refine ev_eqi (half_I (by omega)) ?_
  show Ev X k_X0_inkLine (6, [some (vr 128), some (vi x0), some (vi y0), some (vi x1), some (vi y1), some (vi s), none, none, none, none, none], [vi ((s - 1) / 2)]) (MS I J cc ss) _
  refine ev_n (fr' := (10, [some (vr 128), some (vi x0), some (vi y0), some (vi x1), some (vi y1), some (vi s), some (vi ((s - 1) / 2)), none, none, none, none], [vi x0, vi x1])) (S' := MS I J cc ss) 3 rfl ?_
  refine ev_sub (z := x1 - x0) rfl (by omega) (by omega) (by omega) ?_
  show Ev X k_X0_inkLine (11, [some (vr 128), some (vi x0), some (vi y0), some (vi x1), some (vi y1), some (vi s), some (vi ((s - 1) / 2)), none, none, none, none], [vi (x1 - x0)]) (MS I J cc ss) _
  refine ev_cv rfl rfl rfl ⟨Nat.le_of_ble_eq_true rfl, Nat.le_of_ble_eq_true rfl⟩ (sp_abs X _ (x1 - x0) (by omega)) ?_
  show Ev X k_X0_inkLine (14, [some (vr 128), some (vi x0), some (vi y0), some (vi x1), some (vi y1), some (vi s), some (vi ((s - 1) / 2)), none, none, none, none], [vi (absF (x1 - x0))]) (MS I J cc ss) _
  refine ev_n (fr' := (17, [some (vr 128), some (vi x0), some (vi y0), some (vi x1), some (vi y1), some (vi s), some (vi ((s - 1) / 2)), none, none, none, none], [vi y0, vi y1, vi (absF (x1 - x0))])) (S' := MS I J cc ss) 2 rfl ?_
  refine ev_sub (z := y1 - y0) rfl (by omega) (by omega) (by omega) ?_
  show Ev X k_X0_inkLine (18, [some (vr 128), some (vi x0), some (vi y0), some (vi x1), some (vi y1), some (vi s), some (vi ((s - 1) / 2)), none, none, none, none], [vi (y1 - y0), vi (absF (x1 - x0))]) (MS I J cc ss) _
  refine ev_cv rfl rfl rfl ⟨Nat.le_of_ble_eq_true rfl, Nat.le_of_ble_eq_true rfl⟩ (sp_abs X _ (y1 - y0) (by omega)) ?_
  show Ev X k_X0_inkLine (21, [some (vr 128), some (vi x0), some (vi y0), some (vi x1), some (vi y1), some (vi s), some (vi ((s - 1) / 2)), none, none, none, none], [vi (absF (y1 - y0)), vi (absF (x1 - x0))]) (MS I J cc ss) _
  refine ev_cv rfl rfl rfl ⟨Nat.le_of_ble_eq_true rfl, Nat.le_of_ble_eq_true rfl⟩ (sp_max X _ (absF (x1 - x0)) (absF (y1 - y0)) ) ?_
  show Ev X k_X0_inkLine (24, [some (vr 128), some (vi x0), some (vi y0), some (vi x1), some (vi y1), some (vi s), some (vi ((s - 1) / 2)), none, none, none, none], [vi (lineN x0 y0 x1 y1)]) (MS I J cc ss) _
  refine ev_n (fr' := (29, [some (vr 128), some (vi x0), some (vi y0), some (vi x1), some (vi y1), some (vi s), some (vi ((s - 1) / 2)), some (vi (lineN x0 y0 x1 y1)), some (vi 0), none, none], [])) (S' := MS I J cc ss) 3 rfl ?_
  exact lp_inkLine_128 X _ _ cc ss x0 y0 x1 y1 s I 0 _ _ hQ he h0 h1 h2 h3 h4 (by omega) (onlyD.refl _ _) (hD.congr (fun y x => (Bool.or_false _).symm))
theorem lp_start_130 (X : AX) (I J : Nat → Nat → Int) (cc ss : Nat) {P e : Int} (I0 : F2) (k : Nat) (hk : k ≤ 32) (h1 : I 130 1 = P) (h2 : I 130 2 = e) (hO : onlyD 130 I0 I) (hZ : ∀ q, q < k → I 131 q = 0) : Ev X k_X0_start (26, [some (vr 130), some (vi P), some (vi e), some (vi (k : Int))], []) (MS I J cc ss) (PV cc ss none (fun I' J' => J' = J ∧ onlyD 130 I0 I' ∧ DR I' 130 P e (fun _ _ => false))) := by
  refine ev_n (fr' := (29, [some (vr 130), some (vi P), some (vi e), some (vi (k : Int))], [vi 32, vi (k : Int)])) (S' := MS I J cc ss) 2 rfl ?_
  refine ev_ic (c := .ge) (off := 16) rfl (by decide) (fun (g1 : 32 ≤ (k : Int)) => ?_) (fun (g1 : ¬ (32 ≤ (k : Int))) => ?_)
  · show Ev X k_X0_start (45, [some (vr 130), some (vi P), some (vi e), some (vi (k : Int))], []) (MS I J cc ss) _
    refine ev_r rfl rfl rfl ?_
    exact ⟨_, _, rfl, rfl, rfl, hO, h1, h2, fun r hr => by rw [hZ r (by omega)]; exact ⟨⟨by omega, by omega⟩, fun c _ => bt_zero c⟩⟩
  · show Ev X k_X0_start (32, [some (vr 130), some (vi P), some (vi e), some (vi (k : Int))], []) (MS I J cc ss) _
    refine ev_n (fr' := (38, [some (vr 130), some (vi P), some (vi e), some (vi (k : Int))], [vi 0, vi (k : Int), vr 131])) (S' := MS I J cc ss) 4 rfl ?_
    refine ev_iasN (j := k) rfl rfl (by omega) (by omega) ?_
    show Ev X k_X0_start (39, [some (vr 130), some (vi P), some (vi e), some (vi (k : Int))], []) (MS (up2 I 131 k 0) J cc ss) _
    refine ev_inc (z := (k : Int) + 1) rfl rfl (by omega) (by omega) (by omega) rfl ?_
    show Ev X k_X0_start (42, [some (vr 130), some (vi P), some (vi e), some (vi ((k : Int) + 1))], []) (MS (up2 I 131 k 0) J cc ss) _
    refine ev_n (fr' := (26, [some (vr 130), some (vi P), some (vi e), some (vi ((k : Int) + 1))], [])) (S' := MS (up2 I 131 k 0) J cc ss) 1 rfl ?_
    exact lp_start_130 X _ J cc ss I0 (k + 1) (by omega) (by rw [up2_row _ _ _ _ (by decide)]; exact h1) (by rw [up2_row _ _ _ _ (by decide)]; exact h2) (fun a h3 h4 => by rw [up2_row _ _ _ _ h4]; exact hO a h3 h4) (fun q hq => by
      by_cases e : q = k
      · rw [e, up2_same]
      · rw [up2_ne2 _ _ _ _ e]; exact hZ q (by omega))
termination_by 32 - k
decreasing_by all_goals omega
theorem sp_start_130 (X : AX) (I J : Nat → Nat → Int) (cc ss : Nat) {P e : Int} (hQ : 0 ≤ P ∧ P ≤ 32) : Ev X k_X0_start (0, [some (vr 130), some (vi P), some (vi e), none], []) (MS I J cc ss) (PV cc ss none (fun I' J' => J' = J ∧ onlyD 130 I I' ∧ DR I' 130 P e (fun _ _ => false))) := by
  refine ev_n (fr' := (5, [some (vr 130), some (vi P), some (vi e), none], [vi 32, vi 0, vi P, vr 130])) (S' := MS I J cc ss) 4 rfl ?_
  refine ev_cv rfl rfl rfl ⟨Nat.le_of_ble_eq_true rfl, Nat.le_of_ble_eq_true rfl⟩ (sp_within X _ P 0 32 ) ?_
  show Ev X k_X0_start (8, [some (vr 130), some (vi P), some (vi e), none], [vi (if 0 ≤ P ∧ P ≤ 32 then 1 else 0), vr 130]) (MS I J cc ss) _
  refine ev_beq _ rfl (by decide) (fun (g1 : ¬ (0 ≤ P ∧ P ≤ 32)) => False.elim (by omega)) (fun (g1 : 0 ≤ P ∧ P ≤ 32) => ?_)
  show Ev X k_X0_start (11, [some (vr 130), some (vi P), some (vi e), none], [vr 130]) (MS I J cc ss) _
  refine ev_n (fr' := (16, [some (vr 130), some (vi P), some (vi e), none], [vi P, vr 130])) (S' := MS I J cc ss) 2 rfl ?_
  refine ev_n (fr' := (19, [some (vr 130), some (vi P), some (vi e), none], [])) (S' := MS (up2 I 130 1 P) J cc ss) 1 rfl ?_
  refine ev_n (fr' := (21, [some (vr 130), some (vi P), some (vi e), none], [vi e, vr 130])) (S' := MS (up2 I 130 1 P) J cc ss) 2 rfl ?_
  refine ev_n (fr' := (24, [some (vr 130), some (vi P), some (vi e), none], [])) (S' := MS (up2 (up2 I 130 1 P) 130 2 e) J cc ss) 1 rfl ?_
  refine ev_n (fr' := (26, [some (vr 130), some (vi P), some (vi e), some (vi 0)], [])) (S' := MS (up2 (up2 I 130 1 P) 130 2 e) J cc ss) 2 rfl ?_
  exact lp_start_130 X _ J cc ss I 0 (by omega) rfl rfl (fun a h3 h4 => by rw [up2_row _ _ _ _ h3, up2_row _ _ _ _ h3]) (fun q hq => absurd hq (by omega))
theorem lp_inkLine_130 (X : AX) (I J : Nat → Nat → Int) (cc ss : Nat) {D : Nat → Nat → Bool} {P e : Int} (x0 y0 x1 y1 s : Int) (I0 : F2) (k : Nat) (v9 v10 : Option AV) (hQ : 0 ≤ P ∧ P ≤ 32) (he : -2 ≤ e ∧ e ≤ 2) (h0 : -134 ≤ x0 ∧ x0 ≤ 134) (h1 : -134 ≤ y0 ∧ y0 ≤ 134) (h2 : -134 ≤ x1 ∧ x1 ≤ 134) (h3 : -134 ≤ y1 ∧ y1 ≤ 134) (h4 : 1 ≤ s ∧ s ≤ 136) (hk : (k : Int) ≤ lineN x0 y0 x1 y1 + 1) (hO : onlyD 130 I0 I) (hD : DR I 130 P e (fun y x => D y x || orN (fun q => dotB x0 y0 x1 y1 s P (lineN x0 y0 x1 y1) q y x) k)) : Ev X k_X0_inkLine (29, [some (vr 130), some (vi x0), some (vi y0), some (vi x1), some (vi y1), some (vi s), some (vi ((s - 1) / 2)), some (vi (lineN x0 y0 x1 y1)), some (vi (k : Int)), v9, v10], []) (MS I J cc ss) (PV cc ss none (fun I' J' => J' = J ∧ onlyD 130 I0 I' ∧ DR I' 130 P e (fun y x => D y x || lineB x0 y0 x1 y1 s P y x))) := by
  have hN := lineN_rng h0 h1 h2 h3
  refine ev_n (fr' := (33, [some (vr 130), some (vi x0), some (vi y0), some (vi x1), some (vi y1), some (vi s), some (vi ((s - 1) / 2)), some (vi (lineN x0 y0 x1 y1)), some (vi (k : Int)), v9, v10], [vi (lineN x0 y0 x1 y1), vi (k : Int)])) (S' := MS I J cc ss) 2 rfl ?_
  refine ev_ic (c := .gt) (off := 62) rfl (by decide) (fun (g1 : (lineN x0 y0 x1 y1) < (k : Int)) => ?_) (fun (g1 : ¬ ((lineN x0 y0 x1 y1) < (k : Int))) => ?_)
  · show Ev X k_X0_inkLine (95, [some (vr 130), some (vi x0), some (vi y0), some (vi x1), some (vi y1), some (vi s), some (vi ((s - 1) / 2)), some (vi (lineN x0 y0 x1 y1)), some (vi (k : Int)), v9, v10], []) (MS I J cc ss) _
    refine ev_r rfl rfl rfl ?_
    refine ⟨_, _, rfl, rfl, rfl, hO, hD.congr (fun y x => ?_)⟩
    unfold lineB; rw [show (lineN x0 y0 x1 y1).toNat + 1 = k by omega]
  · show Ev X k_X0_inkLine (36, [some (vr 130), some (vi x0), some (vi y0), some (vi x1), some (vi y1), some (vi s), some (vi ((s - 1) / 2)), some (vi (lineN x0 y0 x1 y1)), some (vi (k : Int)), v9, v10], []) (MS I J cc ss) _
    refine ev_n (fr' := (41, [some (vr 130), some (vi x0), some (vi y0), some (vi x1), some (vi y1), some (vi s), some (vi ((s - 1) / 2)), some (vi (lineN x0 y0 x1 y1)), some (vi (k : Int)), v9, v10], [vi x0, vi x1, vi (k : Int), vi x0])) (S' := MS I J cc ss) 4 rfl ?_
    refine ev_sub (z := x1 - x0) rfl (by omega) (by omega) (by omega) ?_
    show Ev X k_X0_inkLine (42, [some (vr 130), some (vi x0), some (vi y0), some (vi x1), some (vi y1), some (vi s), some (vi ((s - 1) / 2)), some (vi (lineN x0 y0 x1 y1)), some (vi (k : Int)), v9, v10], [vi (x1 - x0), vi (k : Int), vi x0]) (MS I J cc ss) _
    refine ev_n (fr' := (44, [some (vr 130), some (vi x0), some (vi y0), some (vi x1), some (vi y1), some (vi s), some (vi ((s - 1) / 2)), some (vi (lineN x0 y0 x1 y1)), some (vi (k : Int)), v9, v10], [vi (lineN x0 y0 x1 y1), vi (x1 - x0), vi (k : Int), vi x0])) (S' := MS I J cc ss) 1 rfl ?_
    refine ev_cv rfl rfl rfl ⟨Nat.le_of_ble_eq_true rfl, Nat.le_of_ble_eq_true rfl⟩ (sp_alongLine X _ (k : Int) (x1 - x0) (lineN x0 y0 x1 y1) (by omega) (by omega) (by omega)) ?_
    show Ev X k_X0_inkLine (47, [some (vr 130), some (vi x0), some (vi y0), some (vi x1), some (vi y1), some (vi s), some (vi ((s - 1) / 2)), some (vi (lineN x0 y0 x1 y1)), some (vi (k : Int)), v9, v10], [vi (alongF (k : Int) (x1 - x0) (lineN x0 y0 x1 y1)), vi x0]) (MS I J cc ss) _
    have := alongF_rng (k := (k : Int)) (dist := x1 - x0) (n := (lineN x0 y0 x1 y1)) (by omega) (by omega) (by omega)
    refine ev_add (z := x0 + (alongF (k : Int) (x1 - x0) (lineN x0 y0 x1 y1))) rfl (by omega) (by omega) (by omega) ?_
    show Ev X k_X0_inkLine (48, [some (vr 130), some (vi x0), some (vi y0), some (vi x1), some (vi y1), some (vi s), some (vi ((s - 1) / 2)), some (vi (lineN x0 y0 x1 y1)), some (vi (k : Int)), v9, v10], [vi (x0 + (alongF (k : Int) (x1 - x0) (lineN x0 y0 x1 y1)))]) (MS I J cc ss) _
    refine ev_n (fr' := (50, [some (vr 130), some (vi x0), some (vi y0), some (vi x1), some (vi y1), some (vi s), some (vi ((s - 1) / 2)), some (vi (lineN x0 y0 x1 y1)), some (vi (k : Int)), v9, v10], [vi ((s - 1) / 2), vi (x0 + (alongF (k : Int) (x1 - x0) (lineN x0 y0 x1 y1)))])) (S' := MS I J cc ss) 1 rfl ?_
    refine ev_sub (z := x0 + (alongF (k : Int) (x1 - x0) (lineN x0 y0 x1 y1)) - ((s - 1) / 2)) rfl (by omega) (by omega) (by omega) ?_
    show Ev X k_X0_inkLine (51, [some (vr 130), some (vi x0), some (vi y0), some (vi x1), some (vi y1), some (vi s), some (vi ((s - 1) / 2)), some (vi (lineN x0 y0 x1 y1)), some (vi (k : Int)), v9, v10], [vi (x0 + (alongF (k : Int) (x1 - x0) (lineN x0 y0 x1 y1)) - ((s - 1) / 2))]) (MS I J cc ss) _
    refine ev_n (fr' := (59, [some (vr 130), some (vi x0), some (vi y0), some (vi x1), some (vi y1), some (vi s), some (vi ((s - 1) / 2)), some (vi (lineN x0 y0 x1 y1)), some (vi (k : Int)), some (vi (x0 + (alongF (k : Int) (x1 - x0) (lineN x0 y0 x1 y1)) - ((s - 1) / 2))), v10], [vi y0, vi y1, vi (k : Int), vi y0])) (S' := MS I J cc ss) 5 rfl ?_
    refine ev_sub (z := y1 - y0) rfl (by omega) (by omega) (by omega) ?_
    show Ev X k_X0_inkLine (60, [some (vr 130), some (vi x0), some (vi y0), some (vi x1), some (vi y1), some (vi s), some (vi ((s - 1) / 2)), some (vi (lineN x0 y0 x1 y1)), some (vi (k : Int)), some (vi (x0 + (alongF (k : Int) (x1 - x0) (lineN x0 y0 x1 y1)) - ((s - 1) / 2))), v10], [vi (y1 - y0), vi (k : Int), vi y0]) (MS I J cc ss) _
    refine ev_n (fr' := (62, [some (vr 130), some (vi x0), some (vi y0), some (vi x1), some (vi y1), some (vi s), some (vi ((s - 1) / 2)), some (vi (lineN x0 y0 x1 y1)), some (vi (k : Int)), some (vi (x0 + (alongF (k : Int) (x1 - x0) (lineN x0 y0 x1 y1)) - ((s - 1) / 2))), v10], [vi (lineN x0 y0 x1 y1), vi (y1 - y0), vi (k : Int), vi y0])) (S' := MS I J cc ss) 1 rfl ?_
    refine ev_cv rfl rfl rfl ⟨Nat.le_of_ble_eq_true rfl, Nat.le_of_ble_eq_true rfl⟩ (sp_alongLine X _ (k : Int) (y1 - y0) (lineN x0 y0 x1 y1) (by omega) (by omega) (by omega)) ?_
    show Ev X k_X0_inkLine (65, [some (vr 130), some (vi x0), some (vi y0), some (vi x1), some (vi y1), some (vi s), some (vi ((s - 1) / 2)), some (vi (lineN x0 y0 x1 y1)), some (vi (k : Int)), some (vi (x0 + (alongF (k : Int) (x1 - x0) (lineN x0 y0 x1 y1)) - ((s - 1) / 2))), v10], [vi (alongF (k : Int) (y1 - y0) (lineN x0 y0 x1 y1)), vi y0]) (MS I J cc ss) _
    have := alongF_rng (k := (k : Int)) (dist := y1 - y0) (n := (lineN x0 y0 x1 y1)) (by omega) (by omega) (by omega)
    refine ev_add (z := y0 + (alongF (k : Int) (y1 - y0) (lineN x0 y0 x1 y1))) rfl (by omega) (by omega) (by omega) ?_
    show Ev X k_X0_inkLine (66, [some (vr 130), some (vi x0), some (vi y0), some (vi x1), some (vi y1), some (vi s), some (vi ((s - 1) / 2)), some (vi (lineN x0 y0 x1 y1)), some (vi (k : Int)), some (vi (x0 + (alongF (k : Int) (x1 - x0) (lineN x0 y0 x1 y1)) - ((s - 1) / 2))), v10], [vi (y0 + (alongF (k : Int) (y1 - y0) (lineN x0 y0 x1 y1)))]) (MS I J cc ss) _
    refine ev_n (fr' := (68, [some (vr 130), some (vi x0), some (vi y0), some (vi x1), some (vi y1), some (vi s), some (vi ((s - 1) / 2)), some (vi (lineN x0 y0 x1 y1)), some (vi (k : Int)), some (vi (x0 + (alongF (k : Int) (x1 - x0) (lineN x0 y0 x1 y1)) - ((s - 1) / 2))), v10], [vi ((s - 1) / 2), vi (y0 + (alongF (k : Int) (y1 - y0) (lineN x0 y0 x1 y1)))])) (S' := MS I J cc ss) 1 rfl ?_
    refine ev_sub (z := y0 + (alongF (k : Int) (y1 - y0) (lineN x0 y0 x1 y1)) - ((s - 1) / 2)) rfl (by omega) (by omega) (by omega) ?_
    show Ev X k_X0_inkLine (69, [some (vr 130), some (vi x0), some (vi y0), some (vi x1), some (vi y1), some (vi s), some (vi ((s - 1) / 2)), some (vi (lineN x0 y0 x1 y1)), some (vi (k : Int)), some (vi (x0 + (alongF (k : Int) (x1 - x0) (lineN x0 y0 x1 y1)) - ((s - 1) / 2))), v10], [vi (y0 + (alongF (k : Int) (y1 - y0) (lineN x0 y0 x1 y1)) - ((s - 1) / 2))]) (MS I J cc ss) _
    refine ev_n (fr' := (80, [some (vr 130), some (vi x0), some (vi y0), some (vi x1), some (vi y1), some (vi s), some (vi ((s - 1) / 2)), some (vi (lineN x0 y0 x1 y1)), some (vi (k : Int)), some (vi (x0 + (alongF (k : Int) (x1 - x0) (lineN x0 y0 x1 y1)) - ((s - 1) / 2))), some (vi (y0 + (alongF (k : Int) (y1 - y0) (lineN x0 y0 x1 y1)) - ((s - 1) / 2)))], [vi s, vi (x0 + (alongF (k : Int) (x1 - x0) (lineN x0 y0 x1 y1)) - ((s - 1) / 2)), vi (y0 + (alongF (k : Int) (y1 - y0) (lineN x0 y0 x1 y1)) - ((s - 1) / 2)), vi (x0 + (alongF (k : Int) (x1 - x0) (lineN x0 y0 x1 y1)) - ((s - 1) / 2)), vr 130])) (S' := MS I J cc ss) 6 rfl ?_
    refine ev_add (z := x0 + (alongF (k : Int) (x1 - x0) (lineN x0 y0 x1 y1)) + s - ((s - 1) / 2)) rfl (by omega) (by omega) (by omega) ?_
    show Ev X k_X0_inkLine (81, [some (vr 130), some (vi x0), some (vi y0), some (vi x1), some (vi y1), some (vi s), some (vi ((s - 1) / 2)), some (vi (lineN x0 y0 x1 y1)), some (vi (k : Int)), some (vi (x0 + (alongF (k : Int) (x1 - x0) (lineN x0 y0 x1 y1)) - ((s - 1) / 2))), some (vi (y0 + (alongF (k : Int) (y1 - y0) (lineN x0 y0 x1 y1)) - ((s - 1) / 2)))], [vi (x0 + (alongF (k : Int) (x1 - x0) (lineN x0 y0 x1 y1)) + s - ((s - 1) / 2)), vi (y0 + (alongF (k : Int) (y1 - y0) (lineN x0 y0 x1 y1)) - ((s - 1) / 2)), vi (x0 + (alongF (k : Int) (x1 - x0) (lineN x0 y0 x1 y1)) - ((s - 1) / 2)), vr 130]) (MS I J cc ss) _
    refine ev_n (fr' := (85, [some (vr 130), some (vi x0), some (vi y0), some (vi x1), some (vi y1), some (vi s), some (vi ((s - 1) / 2)), some (vi (lineN x0 y0 x1 y1)), some (vi (k : Int)), some (vi (x0 + (alongF (k : Int) (x1 - x0) (lineN x0 y0 x1 y1)) - ((s - 1) / 2))), some (vi (y0 + (alongF (k : Int) (y1 - y0) (lineN x0 y0 x1 y1)) - ((s - 1) / 2)))], [vi s, vi (y0 + (alongF (k : Int) (y1 - y0) (lineN x0 y0 x1 y1)) - ((s - 1) / 2)), vi (x0 + (alongF (k : Int) (x1 - x0) (lineN x0 y0 x1 y1)) + s - ((s - 1) / 2)), vi (y0 + (alongF (k : Int) (y1 - y0) (lineN x0 y0 x1 y1)) - ((s - 1) / 2)), vi (x0 + (alongF (k : Int) (x1 - x0) (lineN x0 y0 x1 y1)) - ((s - 1) / 2)), vr 130])) (S' := MS I J cc ss) 2 rfl ?_
    refine ev_add (z := y0 + (alongF (k : Int) (y1 - y0) (lineN x0 y0 x1 y1)) + s - ((s - 1) / 2)) rfl (by omega) (by omega) (by omega) ?_
    show Ev X k_X0_inkLine (86, [some (vr 130), some (vi x0), some (vi y0), some (vi x1), some (vi y1), some (vi s), some (vi ((s - 1) / 2)), some (vi (lineN x0 y0 x1 y1)), some (vi (k : Int)), some (vi (x0 + (alongF (k : Int) (x1 - x0) (lineN x0 y0 x1 y1)) - ((s - 1) / 2))), some (vi (y0 + (alongF (k : Int) (y1 - y0) (lineN x0 y0 x1 y1)) - ((s - 1) / 2)))], [vi (y0 + (alongF (k : Int) (y1 - y0) (lineN x0 y0 x1 y1)) + s - ((s - 1) / 2)), vi (x0 + (alongF (k : Int) (x1 - x0) (lineN x0 y0 x1 y1)) + s - ((s - 1) / 2)), vi (y0 + (alongF (k : Int) (y1 - y0) (lineN x0 y0 x1 y1)) - ((s - 1) / 2)), vi (x0 + (alongF (k : Int) (x1 - x0) (lineN x0 y0 x1 y1)) - ((s - 1) / 2)), vr 130]) (MS I J cc ss) _
    refine ev_cp rfl rfl rfl ⟨Nat.le_of_ble_eq_true rfl, Nat.le_of_ble_eq_true rfl⟩ (sp_inkArea_130 X _ _ _ _ (x0 + (alongF (k : Int) (x1 - x0) (lineN x0 y0 x1 y1)) - ((s - 1) / 2)) (y0 + (alongF (k : Int) (y1 - y0) (lineN x0 y0 x1 y1)) - ((s - 1) / 2)) (x0 + (alongF (k : Int) (x1 - x0) (lineN x0 y0 x1 y1)) + s - ((s - 1) / 2)) (y0 + (alongF (k : Int) (y1 - y0) (lineN x0 y0 x1 y1)) + s - ((s - 1) / 2)) hD hQ he (by omega) (by omega) (by omega) (by omega)) (fun I1 J q3 => ?_)
    obtain ⟨rfl, rI1, hD⟩ := q3
    show Ev X k_X0_inkLine (89, [some (vr 130), some (vi x0), some (vi y0), some (vi x1), some (vi y1), some (vi s), some (vi ((s - 1) / 2)), some (vi (lineN x0 y0 x1 y1)), some (vi (k : Int)), some (vi (x0 + (alongF (k : Int) (x1 - x0) (lineN x0 y0 x1 y1)) - ((s - 1) / 2))), some (vi (y0 + (alongF (k : Int) (y1 - y0) (lineN x0 y0 x1 y1)) - ((s - 1) / 2)))], []) (MS I1 J cc ss) _
    have hO := hO.trans rI1
    refine ev_inc (z := (k : Int) + 1) rfl rfl (by omega) (by omega) (by omega) rfl ?_
    show Ev X k_X0_inkLine (92, [some (vr 130), some (vi x0), some (vi y0), some (vi x1), some (vi y1), some (vi s), some (vi ((s - 1) / 2)), some (vi (lineN x0 y0 x1 y1)), some (vi ((k : Int) + 1)), some (vi (x0 + (alongF (k : Int) (x1 - x0) (lineN x0 y0 x1 y1)) - ((s - 1) / 2))), some (vi (y0 + (alongF (k : Int) (y1 - y0) (lineN x0 y0 x1 y1)) - ((s - 1) / 2)))], []) (MS I1 J cc ss) _
    refine ev_n (fr' := (29, [some (vr 130), some (vi x0), some (vi y0), some (vi x1), some (vi y1), some (vi s), some (vi ((s - 1) / 2)), some (vi (lineN x0 y0 x1 y1)), some (vi ((k : Int) + 1)), some (vi (x0 + (alongF (k : Int) (x1 - x0) (lineN x0 y0 x1 y1)) - ((s - 1) / 2))), some (vi (y0 + (alongF (k : Int) (y1 - y0) (lineN x0 y0 x1 y1)) - ((s - 1) / 2)))], [])) (S' := MS I1 J cc ss) 1 rfl ?_
    exact lp_inkLine_130 X _ _ cc ss x0 y0 x1 y1 s I0 (k + 1) _ _ hQ he h0 h1 h2 h3 h4 (by omega) hO (hD.congr (fun y x => Bool.or_assoc _ _ _))
termination_by 400 - k
decreasing_by all_goals omega
theorem sp_inkLine_130 (X : AX) (I J : Nat → Nat → Int) (cc ss : Nat) {D : Nat → Nat → Bool} {P e : Int} (x0 y0 x1 y1 s : Int) (hD : DR I 130 P e D) (hQ : 0 ≤ P ∧ P ≤ 32) (he : -2 ≤ e ∧ e ≤ 2) (h0 : -134 ≤ x0 ∧ x0 ≤ 134) (h1 : -134 ≤ y0 ∧ y0 ≤ 134) (h2 : -134 ≤ x1 ∧ x1 ≤ 134) (h3 : -134 ≤ y1 ∧ y1 ≤ 134) (h4 : 1 ≤ s ∧ s ≤ 136) : Ev X k_X0_inkLine (0, [some (vr 130), some (vi x0), some (vi y0), some (vi x1), some (vi y1), some (vi s), none, none, none, none, none], []) (MS I J cc ss) (PV cc ss none (fun I' J' => J' = J ∧ onlyD 130 I I' ∧ DR I' 130 P e (fun y x => D y x || lineB x0 y0 x1 y1 s P y x))) := by
  have hN := lineN_rng h0 h1 h2 h3
  refine ev_n (fr' := (3, [some (vr 130), some (vi x0), some (vi y0), some (vi x1), some (vi y1), some (vi s), none, none, none, none, none], [vi 1, vi s])) (S' := MS I J cc ss) 2 rfl ?_
  refine ev_sub (z := s - 1) rfl (by omega) (by omega) (by omega) ?_
  show Ev X k_X0_inkLine (4, [some (vr 130), some (vi x0), some (vi y0), some (vi x1), some (vi y1), some (vi s), none, none, none, none, none], [vi (s - 1)]) (MS I J cc ss) _
  refine ev_n (fr' := (6, [some (vr 130), some (vi x0), some (vi y0), some (vi x1), some (vi y1), some (vi s), none, none, none, none, none], [vi (opI (· / ·) (s - 1) 2)])) (S' := MS I J cc ss) 2 rfl ?_
  refine ev_eqi (half_I (by omega)) ?_
  show Ev X k_X0_inkLine (6, [some (vr 130), some (vi x0), some (vi y0), some (vi x1), some (vi y1), some (vi s), none, none, none, none, none], [vi ((s - 1) / 2)]) (MS I J cc ss) _
  refine ev_n (fr' := (10, [some (vr 130), some (vi x0), some (vi y0), some (vi x1), some (vi y1), some (vi s), some (vi ((s - 1) / 2)), none, none, none, none], [vi x0, vi x1])) (S' := MS I J cc ss) 3 rfl ?_
  refine ev_sub (z := x1 - x0) rfl (by omega) (by omega) (by omega) ?_
  show Ev X k_X0_inkLine (11, [some (vr 130), some (vi x0), some (vi y0), some (vi x1), some (vi y1), some (vi s), some (vi ((s - 1) / 2)), none, none, none, none], [vi (x1 - x0)]) (MS I J cc ss) _
  refine ev_cv rfl rfl rfl ⟨Nat.le_of_ble_eq_true rfl, Nat.le_of_ble_eq_true rfl⟩ (sp_abs X _ (x1 - x0) (by omega)) ?_
  show Ev X k_X0_inkLine (14, [some (vr 130), some (vi x0), some (vi y0), some (vi x1), some (vi y1), some (vi s), some (vi ((s - 1) / 2)), none, none, none, none], [vi (absF (x1 - x0))]) (MS I J cc ss) _
  refine ev_n (fr' := (17, [some (vr 130), some (vi x0), some (vi y0), some (vi x1), some (vi y1), some (vi s), some (vi ((s - 1) / 2)), none, none, none, none], [vi y0, vi y1, vi (absF (x1 - x0))])) (S' := MS I J cc ss) 2 rfl ?_
  refine ev_sub (z := y1 - y0) rfl (by omega) (by omega) (by omega) ?_
  show Ev X k_X0_inkLine (18, [some (vr 130), some (vi x0), some (vi y0), some (vi x1), some (vi y1), some (vi s), some (vi ((s - 1) / 2)), none, none, none, none], [vi (y1 - y0), vi (absF (x1 - x0))]) (MS I J cc ss) _
  refine ev_cv rfl rfl rfl ⟨Nat.le_of_ble_eq_true rfl, Nat.le_of_ble_eq_true rfl⟩ (sp_abs X _ (y1 - y0) (by omega)) ?_
  show Ev X k_X0_inkLine (21, [some (vr 130), some (vi x0), some (vi y0), some (vi x1), some (vi y1), some (vi s), some (vi ((s - 1) / 2)), none, none, none, none], [vi (absF (y1 - y0)), vi (absF (x1 - x0))]) (MS I J cc ss) _
  refine ev_cv rfl rfl rfl ⟨Nat.le_of_ble_eq_true rfl, Nat.le_of_ble_eq_true rfl⟩ (sp_max X _ (absF (x1 - x0)) (absF (y1 - y0)) ) ?_
  show Ev X k_X0_inkLine (24, [some (vr 130), some (vi x0), some (vi y0), some (vi x1), some (vi y1), some (vi s), some (vi ((s - 1) / 2)), none, none, none, none], [vi (lineN x0 y0 x1 y1)]) (MS I J cc ss) _
  refine ev_n (fr' := (29, [some (vr 130), some (vi x0), some (vi y0), some (vi x1), some (vi y1), some (vi s), some (vi ((s - 1) / 2)), some (vi (lineN x0 y0 x1 y1)), some (vi 0), none, none], [])) (S' := MS I J cc ss) 3 rfl ?_
  exact lp_inkLine_130 X _ _ cc ss x0 y0 x1 y1 s I 0 _ _ hQ he h0 h1 h2 h3 h4 (by omega) (onlyD.refl _ _) (hD.congr (fun y x => (Bool.or_false _).symm))
