/-! PUBLIC QUESTIONS, class, written icons (printed by gen/g68.py) -/
def wbF (D : Nat → Nat → Bool) (n x : Nat) : Int := if x % (n + 1) = n then 10 else if D (x / (n + 1)) (x % (n + 1)) = true then 35 else 46
def zeF (f : Nat → Int) : Nat → Int
  | 0 => 0
  | n + 1 => zeF f n + (if f n = 0 then 1 else 0)
theorem zeF_rng (f : Nat → Int) : ∀ n : Nat, 0 ≤ zeF f n ∧ zeF f n ≤ n
  | 0 => ⟨Int.le_refl _, Int.le_refl _⟩
  | n + 1 => by
    have := zeF_rng f n
    show 0 ≤ zeF f n + _ ∧ zeF f n + _ ≤ _
    split <;> omega
theorem area_le {n : Nat} (h : n ≤ 32) : n * (n + 1) ≤ 1056 := Nat.le_trans (Nat.mul_le_mul h (Nat.add_le_add_right h 1)) (Nat.le_refl _)
theorem area_cast (n : Nat) : ((n * (n + 1) : Nat) : Int) = (n : Int) * ((n : Int) + 1) := by rw [Int.natCast_mul, Int.natCast_add]; rfl
theorem area_int {n : Nat} (h : n ≤ 32) : (n : Int) * ((n : Int) + 1) ≤ 1056 := by
  have := area_le h
  rw [← area_cast]; omega
theorem area_nat {n x : Nat} (h : (x : Int) < (n : Int) * ((n : Int) + 1)) : x < n * (n + 1) := by
  rw [← area_cast] at h; omega
theorem sp_textLength (X : AX) (I J : Nat → Nat → Int) (cc ss : Nat) {D : Nat → Nat → Bool} {e : Int} (n : Nat) (hD : DR I 130 (n : Int) e D) (hn : n ≤ 32) : Ev X k_X0_textLength (0, [some (vr 130)], []) (MS I J cc ss) (fun o T => o = .inl (some (vi ((n : Int) * ((n : Int) + 1)))) ∧ T = MS I J cc ss) := by
  have ha := area_int hn
  have ha0 : 0 ≤ (n : Int) * ((n : Int) + 1) := Int.mul_nonneg (by omega) (by omega)
  refine ev_n (fr' := (4, [some (vr 130)], [vi (I 130 1)])) (S' := MS I J cc ss) 2 rfl ?_
  refine ev_eqi (hD.1) ?_
  show Ev X k_X0_textLength (4, [some (vr 130)], [vi (n : Int)]) (MS I J cc ss) _
  refine ev_n (fr' := (8, [some (vr 130)], [vi (I 130 1), vi (n : Int)])) (S' := MS I J cc ss) 2 rfl ?_
  refine ev_eqi (hD.1) ?_
  show Ev X k_X0_textLength (8, [some (vr 130)], [vi (n : Int), vi (n : Int)]) (MS I J cc ss) _
  refine ev_n (fr' := (9, [some (vr 130)], [vi 1, vi (n : Int), vi (n : Int)])) (S' := MS I J cc ss) 1 rfl ?_
  refine ev_add (z := (n : Int) + 1) rfl (by omega) (by omega) (by omega) ?_
  show Ev X k_X0_textLength (10, [some (vr 130)], [vi ((n : Int) + 1), vi (n : Int)]) (MS I J cc ss) _
  refine ev_mul (z := ((n : Int) * ((n : Int) + 1))) rfl (by omega) (by omega) (by omega) ?_
  show Ev X k_X0_textLength (11, [some (vr 130)], [vi ((n : Int) * ((n : Int) + 1))]) (MS I J cc ss) _
  refine ev_r rfl rfl rfl ?_
  exact ⟨rfl, rfl⟩
theorem sp_textByte (X : AX) (I J : Nat → Nat → Int) (cc ss : Nat) {D : Nat → Nat → Bool} {e : Int} (n : Nat) (hD : DR I 130 (n : Int) e D) (hn : n ≤ 32) (x : Nat) (hx : (x : Int) < (n : Int) * ((n : Int) + 1)) : Ev X k_X0_textByte (0, [some (vr 130), some (vi (x : Int)), none, none, none], []) (MS I J cc ss) (fun o T => o = .inl (some (vi (wbF D n x))) ∧ T = MS I J cc ss) := by
  have ha := area_int hn
  have ha0 : 0 ≤ (n : Int) * ((n : Int) + 1) := Int.mul_nonneg (by omega) (by omega)
  obtain ⟨r, hr⟩ : ∃ r, r = x % (n + 1) := ⟨_, rfl⟩
  obtain ⟨q, hq⟩ : ∃ q, q = x / (n + 1) := ⟨_, rfl⟩
  have hr1 : r < n + 1 := by rw [hr]; exact Nat.mod_lt _ (by omega)
  have hx2 := area_nat hx
  have hq1 : q < n := by rw [hq]; exact (Nat.div_lt_iff_lt_mul (by omega)).mpr hx2
  have hr2 : (x : Int) % ((n : Int) + 1) = r := by rw [hr]; norm_cast
  have hq2 : (x : Int) / ((n : Int) + 1) = q := by rw [hq]; norm_cast
  refine ev_n (fr' := (4, [some (vr 130), some (vi (x : Int)), none, none, none], [vi (I 130 1)])) (S' := MS I J cc ss) 2 rfl ?_
  refine ev_eqi (hD.1) ?_
  show Ev X k_X0_textByte (4, [some (vr 130), some (vi (x : Int)), none, none, none], [vi (n : Int)]) (MS I J cc ss) _
  refine ev_n (fr' := (5, [some (vr 130), some (vi (x : Int)), none, none, none], [vi 1, vi (n : Int)])) (S' := MS I J cc ss) 1 rfl ?_
  refine ev_add (z := (n : Int) + 1) rfl (by omega) (by omega) (by omega) ?_
  show Ev X k_X0_textByte (6, [some (vr 130), some (vi (x : Int)), none, none, none], [vi ((n : Int) + 1)]) (MS I J cc ss) _
  refine ev_n (fr' := (8, [some (vr 130), some (vi (x : Int)), some (vi ((n : Int) + 1)), none, none], [vi ((n : Int) + 1)])) (S' := MS I J cc ss) 2 rfl ?_
  refine ev_if (c := .gt) (off := 7) rfl (by decide) (fun (g1 : 0 < (n : Int) + 1) => ?_) (fun (g1 : ¬ (0 < (n : Int) + 1)) => False.elim (by omega))
  show Ev X k_X0_textByte (15, [some (vr 130), some (vi (x : Int)), some (vi ((n : Int) + 1)), none, none], []) (MS I J cc ss) _
  refine ev_n (fr' := (17, [some (vr 130), some (vi (x : Int)), some (vi ((n : Int) + 1)), none, none], [vi ((n : Int) + 1), vi (x : Int)])) (S' := MS I J cc ss) 2 rfl ?_
  refine ev_rem (z := (r : Int)) rfl (by omega) (by omega) hr2 ?_
  show Ev X k_X0_textByte (18, [some (vr 130), some (vi (x : Int)), some (vi ((n : Int) + 1)), none, none], [vi (r : Int)]) (MS I J cc ss) _
  refine ev_n (fr' := (20, [some (vr 130), some (vi (x : Int)), some (vi ((n : Int) + 1)), some (vi (r : Int)), none], [vi ((n : Int) + 1)])) (S' := MS I J cc ss) 2 rfl ?_
  refine ev_if (c := .gt) (off := 7) rfl (by decide) (fun (g2 : 0 < (n : Int) + 1) => ?_) (fun (g2 : ¬ (0 < (n : Int) + 1)) => False.elim (by omega))
  show Ev X k_X0_textByte (27, [some (vr 130), some (vi (x : Int)), some (vi ((n : Int) + 1)), some (vi (r : Int)), none], []) (MS I J cc ss) _
  refine ev_n (fr' := (29, [some (vr 130), some (vi (x : Int)), some (vi ((n : Int) + 1)), some (vi (r : Int)), none], [vi ((n : Int) + 1), vi (x : Int)])) (S' := MS I J cc ss) 2 rfl ?_
  refine ev_div (z := (q : Int)) rfl (by omega) (by omega) hq2 ?_
  show Ev X k_X0_textByte (30, [some (vr 130), some (vi (x : Int)), some (vi ((n : Int) + 1)), some (vi (r : Int)), none], [vi (q : Int)]) (MS I J cc ss) _
  refine ev_n (fr' := (37, [some (vr 130), some (vi (x : Int)), some (vi ((n : Int) + 1)), some (vi (r : Int)), some (vi (q : Int))], [vi (I 130 1), vi (r : Int)])) (S' := MS I J cc ss) 4 rfl ?_
  refine ev_eqi (hD.1) ?_
  show Ev X k_X0_textByte (37, [some (vr 130), some (vi (x : Int)), some (vi ((n : Int) + 1)), some (vi (r : Int)), some (vi (q : Int))], [vi (n : Int), vi (r : Int)]) (MS I J cc ss) _
  refine ev_ic (c := .ne) (off := 6) rfl (by decide) (fun (g3 : (r : Int) ≠ (n : Int)) => ?_) (fun (g3 : ¬ ((r : Int) ≠ (n : Int))) => ?_)
  · show Ev X k_X0_textByte (43, [some (vr 130), some (vi (x : Int)), some (vi ((n : Int) + 1)), some (vi (r : Int)), some (vi (q : Int))], []) (MS I J cc ss) _
    refine ev_n (fr' := (47, [some (vr 130), some (vi (x : Int)), some (vi ((n : Int) + 1)), some (vi (r : Int)), some (vi (q : Int))], [vi (q : Int), vi (r : Int), vr 130])) (S' := MS I J cc ss) 3 rfl ?_
    refine ev_cv rfl rfl rfl ⟨Nat.le_of_ble_eq_true rfl, Nat.le_of_ble_eq_true rfl⟩ (sp_hasInk_130 X _ _ _ _ r q hD (by omega) (by omega)) ?_
    show Ev X k_X0_textByte (50, [some (vr 130), some (vi (x : Int)), some (vi ((n : Int) + 1)), some (vi (r : Int)), some (vi (q : Int))], [vi (if D q r = true then 1 else 0)]) (MS I J cc ss) _
    refine ev_beq _ rfl (by decide) (fun (g4 : ¬ (D q r = true)) => ?_) (fun (g4 : D q r = true) => ?_)
    · show Ev X k_X0_textByte (58, [some (vr 130), some (vi (x : Int)), some (vi ((n : Int) + 1)), some (vi (r : Int)), some (vi (q : Int))], []) (MS I J cc ss) _
      refine ev_n (fr' := (60, [some (vr 130), some (vi (x : Int)), some (vi ((n : Int) + 1)), some (vi (r : Int)), some (vi (q : Int))], [vi 46])) (S' := MS I J cc ss) 1 rfl ?_
      refine ev_r rfl rfl rfl ?_
      exact ⟨congrArg (fun z => Sum.inl (some (vi z))) (by unfold wbF; rw [← hr, ← hq, if_neg (by omega)]; first | rw [if_pos g4] | rw [if_pos (Decidable.of_not_not g4)] | rw [if_neg g4]), rfl⟩
    · show Ev X k_X0_textByte (53, [some (vr 130), some (vi (x : Int)), some (vi ((n : Int) + 1)), some (vi (r : Int)), some (vi (q : Int))], []) (MS I J cc ss) _
      refine ev_n (fr' := (60, [some (vr 130), some (vi (x : Int)), some (vi ((n : Int) + 1)), some (vi (r : Int)), some (vi (q : Int))], [vi 35])) (S' := MS I J cc ss) 2 rfl ?_
      refine ev_r rfl rfl rfl ?_
      exact ⟨congrArg (fun z => Sum.inl (some (vi z))) (by unfold wbF; rw [← hr, ← hq, if_neg (by omega)]; first | rw [if_pos g4] | rw [if_pos (Decidable.of_not_not g4)] | rw [if_neg g4]), rfl⟩
  · show Ev X k_X0_textByte (40, [some (vr 130), some (vi (x : Int)), some (vi ((n : Int) + 1)), some (vi (r : Int)), some (vi (q : Int))], []) (MS I J cc ss) _
    refine ev_n (fr' := (42, [some (vr 130), some (vi (x : Int)), some (vi ((n : Int) + 1)), some (vi (r : Int)), some (vi (q : Int))], [vi 10])) (S' := MS I J cc ss) 1 rfl ?_
    refine ev_r rfl rfl rfl ?_
    exact ⟨congrArg (fun z => Sum.inl (some (vi z))) (by unfold wbF; rw [← hr, if_pos (by omega)]), rfl⟩
theorem pb_written_x (X : AX) (I J : Nat → Nat → Int) (cc ss : Nat) {g : F1} (y : Int) (hS : SRep I 1 g) (hP : PRep I J 5 g) (hI : IRep I J 9 g) (hws : WS g) (hwp : WP g) (hwi : WI g) {D : Nat → Nat → Bool} {e : Int} (n : Nat) (hD : DR I 130 (n : Int) e D) (hn : n ≤ 32) (h : ¬ (0 ≤ y ∧ y ≤ (n : Int) * ((n : Int) + 1) - 1)) : Ev X k_X8_writtenByte (0, [some (vr 0), some (vi y)], []) (MS I J cc ss) (fun o T => o = .inr 2 ∧ T = MS I J (cc + 1) (ss + 6)) := by
  have ha := area_int hn
  have ha0 : 0 ≤ (n : Int) * ((n : Int) + 1) := Int.mul_nonneg (by omega) (by omega)
  refine ev_n (fr' := (6, [some (vr 0), some (vi y)], [vr 130, vi 0, vi y])) (S' := MS I J cc ss) 4 rfl ?_
  refine ev_cv rfl rfl rfl ⟨Nat.le_of_ble_eq_true rfl, Nat.le_of_ble_eq_true rfl⟩ (sp_textLength X _ _ _ _ n hD hn) ?_
  show Ev X k_X8_writtenByte (9, [some (vr 0), some (vi y)], [vi ((n : Int) * ((n : Int) + 1)), vi 0, vi y]) (MS I J cc ss) _
  refine ev_n (fr' := (10, [some (vr 0), some (vi y)], [vi 1, vi ((n : Int) * ((n : Int) + 1)), vi 0, vi y])) (S' := MS I J cc ss) 1 rfl ?_
  refine ev_sub (z := ((n : Int) * ((n : Int) + 1)) - 1) rfl (by omega) (by omega) (by omega) ?_
  show Ev X k_X8_writtenByte (11, [some (vr 0), some (vi y)], [vi (((n : Int) * ((n : Int) + 1)) - 1), vi 0, vi y]) (MS I J cc ss) _
  refine ev_cv rfl rfl rfl ⟨Nat.le_of_ble_eq_true rfl, Nat.le_of_ble_eq_true rfl⟩ (sp_within X _ y 0 (((n : Int) * ((n : Int) + 1)) - 1) ) ?_
  show Ev X k_X8_writtenByte (14, [some (vr 0), some (vi y)], [vi (if 0 ≤ y ∧ y ≤ ((n : Int) * ((n : Int) + 1)) - 1 then 1 else 0)]) (MS I J cc ss) _
  refine ev_s0 _ (h) ?_
  show Ev X k_X8_writtenByte (14, [some (vr 0), some (vi y)], [vi 0]) (MS I J cc ss) _
  refine ev_cx rfl rfl rfl ⟨Nat.le_of_ble_eq_true rfl, Nat.le_of_ble_eq_true rfl⟩ (sp_reqI0 X _ _ _ _) rfl ?_
  exact ⟨rfl, rfl⟩
theorem pb_written (X : AX) (I J : Nat → Nat → Int) (cc ss : Nat) {g : F1} (x : Nat) (hS : SRep I 1 g) (hP : PRep I J 5 g) (hI : IRep I J 9 g) (hws : WS g) (hwp : WP g) (hwi : WI g) {D : Nat → Nat → Bool} {e : Int} (n : Nat) (hD : DR I 130 (n : Int) e D) (hn : n ≤ 32) (hx : (x : Int) < (n : Int) * ((n : Int) + 1)) : Ev X k_X8_writtenByte (0, [some (vr 0), some (vi (x : Int))], []) (MS I J cc ss) (PV cc ss (some (vi (wbF D n x))) (fun I' J' => J' = J ∧ scrC I I')) := by
  have ha := area_int hn
  have ha0 : 0 ≤ (n : Int) * ((n : Int) + 1) := Int.mul_nonneg (by omega) (by omega)
  refine ev_n (fr' := (6, [some (vr 0), some (vi (x : Int))], [vr 130, vi 0, vi (x : Int)])) (S' := MS I J cc ss) 4 rfl ?_
  refine ev_cv rfl rfl rfl ⟨Nat.le_of_ble_eq_true rfl, Nat.le_of_ble_eq_true rfl⟩ (sp_textLength X _ _ _ _ n hD hn) ?_
  show Ev X k_X8_writtenByte (9, [some (vr 0), some (vi (x : Int))], [vi ((n : Int) * ((n : Int) + 1)), vi 0, vi (x : Int)]) (MS I J cc ss) _
  refine ev_n (fr' := (10, [some (vr 0), some (vi (x : Int))], [vi 1, vi ((n : Int) * ((n : Int) + 1)), vi 0, vi (x : Int)])) (S' := MS I J cc ss) 1 rfl ?_
  refine ev_sub (z := ((n : Int) * ((n : Int) + 1)) - 1) rfl (by omega) (by omega) (by omega) ?_
  show Ev X k_X8_writtenByte (11, [some (vr 0), some (vi (x : Int))], [vi (((n : Int) * ((n : Int) + 1)) - 1), vi 0, vi (x : Int)]) (MS I J cc ss) _
  refine ev_cv rfl rfl rfl ⟨Nat.le_of_ble_eq_true rfl, Nat.le_of_ble_eq_true rfl⟩ (sp_within X _ (x : Int) 0 (((n : Int) * ((n : Int) + 1)) - 1) ) ?_
  show Ev X k_X8_writtenByte (14, [some (vr 0), some (vi (x : Int))], [vi (if 0 ≤ (x : Int) ∧ (x : Int) ≤ ((n : Int) * ((n : Int) + 1)) - 1 then 1 else 0)]) (MS I J cc ss) _
  refine ev_s1 _ (by omega) ?_
  show Ev X k_X8_writtenByte (14, [some (vr 0), some (vi (x : Int))], [vi 1]) (MS I J cc ss) _
  refine ev_cv rfl rfl rfl ⟨Nat.le_of_ble_eq_true rfl, Nat.le_of_ble_eq_true rfl⟩ (sp_reqI1 X _) ?_
  show Ev X k_X8_writtenByte (17, [some (vr 0), some (vi (x : Int))], []) (MS I J cc ss) _
  refine ev_n (fr' := (22, [some (vr 0), some (vi (x : Int))], [vi (x : Int), vr 130])) (S' := MS I J cc ss) 3 rfl ?_
  refine ev_cv rfl rfl rfl ⟨Nat.le_of_ble_eq_true rfl, Nat.le_of_ble_eq_true rfl⟩ (sp_textByte X _ _ _ _ n hD hn x (by omega)) ?_
  show Ev X k_X8_writtenByte (25, [some (vr 0), some (vi (x : Int))], [vi (wbF D n x)]) (MS I J cc ss) _
  refine ev_r rfl rfl rfl ?_
  first | exact ⟨_, _, rfl, rfl, rfl, scrC.refl _⟩ | exact ⟨_, _, rfl, congrArg (fun z => Sum.inl (some (vi z))) (by first | rfl | (rw [if_pos (by omega)]) | (rw [if_neg (by omega)]) | (simp only [*]; done) | omega), rfl, scrC.refl _⟩
theorem pb_write_x (X : AX) (I J : Nat → Nat → Int) (cc ss : Nat) {g : F1} (y z : Int) (hS : SRep I 1 g) (hP : PRep I J 5 g) (hI : IRep I J 9 g) (hws : WS g) (hwp : WP g) (hwi : WI g) (h : ¬ ((0 ≤ y ∧ y < g 308) ∧ (0 ≤ z ∧ z < g 0))) : Ev X k_X8_writeIcon (0, [some (vr 0), some (vi y), some (vi z)], []) (MS I J cc ss) (fun o T => o = .inr 2 ∧ T = MS I J (cc + 1) (ss + 6)) := by
  refine ev_n (fr' := (3, [some (vr 0), some (vi y), some (vi z)], [vi z, vi y, vr 0])) (S' := MS I J cc ss) 3 rfl ?_
  refine ev_cx rfl rfl rfl ⟨Nat.le_of_ble_eq_true rfl, Nat.le_of_ble_eq_true rfl⟩ (sp_reqDr0 X _ _ _ _ y z hS hP hI hws hwp hwi h) rfl ?_
  exact ⟨rfl, rfl⟩
theorem pb_write (X : AX) (I J : Nat → Nat → Int) (cc ss : Nat) {g : F1} (i k n : Nat) (hS : SRep I 1 g) (hP : PRep I J 5 g) (hI : IRep I J 9 g) (hws : WS g) (hwp : WP g) (hwi : WI g) (hi : (i : Int) < g 308) (hk : (k : Int) < g 0) (hn : g (2 * k + 1) = (n : Int)) : Ev X k_X8_writeIcon (0, [some (vr 0), some (vi (i : Int)), some (vi (k : Int))], []) (MS I J cc ss) (PV cc ss (some (vi ((n : Int) * ((n : Int) + 1)))) (fun I' J' => J' = J ∧ onlyD 130 I I' ∧ DR I' 130 (n : Int) (g (2 * k + 2)) (icF g i (n : Int) (g (2 * k + 2))))) := by
  have hr := hws.2.2.1 k hk
  refine ev_n (fr' := (3, [some (vr 0), some (vi (i : Int)), some (vi (k : Int))], [vi (k : Int), vi (i : Int), vr 0])) (S' := MS I J cc ss) 3 rfl ?_
  refine ev_cv rfl rfl rfl ⟨Nat.le_of_ble_eq_true rfl, Nat.le_of_ble_eq_true rfl⟩ (sp_reqDr1 X _ _ _ _ i k hS hP hI hws hwp hwi (by omega) (by omega)) ?_
  show Ev X k_X8_writeIcon (6, [some (vr 0), some (vi (i : Int)), some (vi (k : Int))], []) (MS I J cc ss) _
  refine ev_n (fr' := (13, [some (vr 0), some (vi (i : Int)), some (vi (k : Int))], [vi (k : Int), vi (i : Int), vr 130, vr 0])) (S' := MS I J cc ss) 5 rfl ?_
  refine ev_cp rfl rfl rfl ⟨Nat.le_of_ble_eq_true rfl, Nat.le_of_ble_eq_true rfl⟩ (sp_drawAt_130 X _ _ _ _ i k hS hP hI hwp hwi hws (by omega) (by omega)) (fun I1 J q2 => ?_)
  obtain ⟨rfl, rI1, hD130⟩ := q2
  show Ev X k_X8_writeIcon (16, [some (vr 0), some (vi (i : Int)), some (vi (k : Int))], []) (MS I1 J cc ss) _
  have hS := onlyD.S rI1 (by decide) (by decide) hS
  have hP := onlyD.P rI1 (by decide) (by decide) hP
  have hI := onlyD.I rI1 (by decide) (by decide) hI
  refine ev_n (fr' := (20, [some (vr 0), some (vi (i : Int)), some (vi (k : Int))], [vr 130])) (S' := MS I1 J cc ss) 2 rfl ?_
  refine ev_cv rfl rfl rfl ⟨Nat.le_of_ble_eq_true rfl, Nat.le_of_ble_eq_true rfl⟩ (sp_textLength X _ _ _ _ n (hn ▸ hD130) (by omega)) ?_
  show Ev X k_X8_writeIcon (23, [some (vr 0), some (vi (i : Int)), some (vi (k : Int))], [vi ((n : Int) * ((n : Int) + 1))]) (MS I1 J cc ss) _
  refine ev_r rfl rfl rfl ?_
  exact ⟨_, _, rfl, rfl, rfl, rI1, hn ▸ hD130⟩
