/-! SHAPES MOVED (printed by gen/g60.py) -/
def goF (kd w dx dy : Int) : Int := if w = 1 ∨ (w = 3 ∧ kd = 2) then dx else if w = 2 ∨ (w = 4 ∧ kd = 2) then dy else 0
abbrev fitP (kd w v : Int) : Prop := lowF kd w ≤ v ∧ v ≤ highF kd w
abbrev canP (g : F1) (p s : Nat) (dx dy : Int) : Prop := fitP (g (37 * p + 6 * s + 13)) 1 (g (37 * p + 6 * s + 14) + goF (g (37 * p + 6 * s + 13)) 1 dx dy) ∧ fitP (g (37 * p + 6 * s + 13)) 2 (g (37 * p + 6 * s + 15) + goF (g (37 * p + 6 * s + 13)) 2 dx dy) ∧ fitP (g (37 * p + 6 * s + 13)) 3 (g (37 * p + 6 * s + 16) + goF (g (37 * p + 6 * s + 13)) 3 dx dy) ∧ fitP (g (37 * p + 6 * s + 13)) 4 (g (37 * p + 6 * s + 17) + goF (g (37 * p + 6 * s + 13)) 4 dx dy) ∧ fitP (g (37 * p + 6 * s + 13)) 5 (g (37 * p + 6 * s + 18) + goF (g (37 * p + 6 * s + 13)) 5 dx dy)
theorem goF_rng {kd w dx dy : Int} (h1 : -48 ≤ dx ∧ dx ≤ 48) (h2 : -48 ≤ dy ∧ dy ≤ 48) : -48 ≤ goF kd w dx dy ∧ goF kd w dx dy ≤ 48 := by
  unfold goF; split
  · exact h1
  · split
    · exact h2
    · omega
def wrS (g : F1) (lo w : Nat) (v : Nat → Int) : F1 := fun k => if lo ≤ k ∧ k < lo + w then v (k - lo) else g k
theorem wrS_0 (g : F1) (lo : Nat) (v : Nat → Int) : wrS g lo 0 v = g := by
  funext k; unfold wrS; rw [if_neg (by omega)]
theorem wrS_next (g : F1) (lo w : Nat) (v : Nat → Int) : upd1 (wrS g lo w v) (lo + w) (v w) = wrS g lo (w + 1) v := by
  funext k
  unfold upd1 wrS
  by_cases e : k = lo + w
  · rw [if_pos e, if_pos (by omega), e, show lo + w - lo = w by omega]
  · rw [if_neg e]
    by_cases e2 : lo ≤ k ∧ k < lo + w
    · rw [if_pos e2, if_pos (by omega)]
    · rw [if_neg e2, if_neg (by omega)]
theorem wrS_out {g : F1} {lo w : Nat} {v : Nat → Int} {k : Nat} (h : k < lo ∨ lo + w ≤ k) : wrS g lo w v k = g k := by
  unfold wrS; rw [if_neg (by omega)]
theorem wrS_in {g : F1} {lo w j : Nat} {v : Nat → Int} (h : j < w) : wrS g lo w v (lo + j) = v j := by
  unfold wrS; rw [if_pos (by omega), show lo + j - lo = j by omega]
theorem sp_fitsShape (X : AX) (S : AS) (kd : Int) (w : Int) (v : Int) (h : 1 ≤ w ∧ w ≤ 5) : Ev X k_X8_fitsShape (0, [some (vi kd), some (vi w), some (vi v)], []) (S) (fun o T => o = .inl (some (vi (if fitP kd w v then 1 else 0))) ∧ T = S) := by
  refine ev_n (fr' := (3, [some (vi kd), some (vi w), some (vi v)], [vi w, vi kd, vi v])) (S' := S) 3 rfl ?_
  refine ev_cv rfl rfl rfl ⟨Nat.le_of_ble_eq_true rfl, Nat.le_of_ble_eq_true rfl⟩ (sp_leastOf X _ kd w (by omega)) ?_
  show Ev X k_X8_fitsShape (6, [some (vi kd), some (vi w), some (vi v)], [vi (lowF kd w), vi v]) (S) _
  refine ev_n (fr' := (8, [some (vi kd), some (vi w), some (vi v)], [vi w, vi kd, vi (lowF kd w), vi v])) (S' := S) 2 rfl ?_
  refine ev_cv rfl rfl rfl ⟨Nat.le_of_ble_eq_true rfl, Nat.le_of_ble_eq_true rfl⟩ (sp_greatestOf X _ kd w (by omega)) ?_
  show Ev X k_X8_fitsShape (11, [some (vi kd), some (vi w), some (vi v)], [vi (highF kd w), vi (lowF kd w), vi v]) (S) _
  refine ev_cv rfl rfl rfl ⟨Nat.le_of_ble_eq_true rfl, Nat.le_of_ble_eq_true rfl⟩ (sp_within X _ v (lowF kd w) (highF kd w) ) ?_
  show Ev X k_X8_fitsShape (14, [some (vi kd), some (vi w), some (vi v)], [vi (if (lowF kd w) ≤ v ∧ v ≤ (highF kd w) then 1 else 0)]) (S) _
  refine ev_r rfl rfl (rt_b _) ?_
  first | exact ⟨rfl, rfl⟩ | exact ⟨congrArg (fun z => Sum.inl (some (vi z))) (by first | rfl | (rw [if_pos (by omega)]) | (rw [if_neg (by omega)]) | (simp only [*]; done) | omega), rfl⟩
theorem sp_shifted (X : AX) (I J : Nat → Nat → Int) (cc ss : Nat) {g : F1} (p s w : Nat) (dx dy : Int) (hP : PRep I J 5 g) (h8 : g 11 ≤ 8) (h6 : ∀ q : Nat, (q : Int) < g 11 → g (37 * q + 12) ≤ 6) (hp : (p : Int) < g 11) (hs : (s : Int) < g (37 * p + 12)) (hw : w < 6) (hr : 0 ≤ g (37 * p + 6 * s + w + 13) ∧ g (37 * p + 6 * s + w + 13) ≤ 48) (hdx : -48 ≤ dx ∧ dx ≤ 48) (hdy : -48 ≤ dy ∧ dy ≤ 48) : Ev X k_X8_shiftedNumber (0, [some (vr 0), some (vi (p : Int)), some (vi (s : Int)), some (vi (w : Int)), some (vi dx), some (vi dy), none, none], []) (MS I J cc ss) (fun o T => o = .inl (some (vi (g (37 * p + 6 * s + w + 13) + goF (g (37 * p + 6 * s + 13)) (w : Int) dx dy))) ∧ T = MS I J cc ss) := by
  refine ev_n (fr' := (10, [some (vr 0), some (vi (p : Int)), some (vi (s : Int)), some (vi (w : Int)), some (vi dx), some (vi dy), none, none], [vi (w : Int), vi (s : Int), vi (p : Int), vr 5])) (S' := MS I J cc ss) 6 rfl ?_
  refine ev_cv rfl rfl rfl ⟨Nat.le_of_ble_eq_true rfl, Nat.le_of_ble_eq_true rfl⟩ (sp_number2_5 X _ _ _ _ p s w hP h8 h6 (by omega) (by omega) (by omega)) ?_
  show Ev X k_X8_shiftedNumber (13, [some (vr 0), some (vi (p : Int)), some (vi (s : Int)), some (vi (w : Int)), some (vi dx), some (vi dy), none, none], [vi (g (37 * p + 6 * s + w + 13))]) (MS I J cc ss) _
  refine ev_n (fr' := (25, [some (vr 0), some (vi (p : Int)), some (vi (s : Int)), some (vi (w : Int)), some (vi dx), some (vi dy), some (vi (g (37 * p + 6 * s + w + 13))), none], [vi 0, vi (s : Int), vi (p : Int), vr 5])) (S' := MS I J cc ss) 7 rfl ?_
  refine ev_cv rfl rfl rfl ⟨Nat.le_of_ble_eq_true rfl, Nat.le_of_ble_eq_true rfl⟩ (sp_number2_5 X _ _ _ _ p s 0 hP h8 h6 (by omega) (by omega) (by omega)) ?_
  show Ev X k_X8_shiftedNumber (28, [some (vr 0), some (vi (p : Int)), some (vi (s : Int)), some (vi (w : Int)), some (vi dx), some (vi dy), some (vi (g (37 * p + 6 * s + w + 13))), none], [vi (g (37 * p + 6 * s + 13))]) (MS I J cc ss) _
  refine ev_n (fr' := (29, [some (vr 0), some (vi (p : Int)), some (vi (s : Int)), some (vi (w : Int)), some (vi dx), some (vi dy), some (vi (g (37 * p + 6 * s + w + 13))), none], [vi 2, vi (g (37 * p + 6 * s + 13))])) (S' := MS I J cc ss) 1 rfl ?_
  refine ev_ic (c := .ne) (off := 7) rfl (by decide) (fun (g1 : (g (37 * p + 6 * s + 13)) ≠ 2) => ?_) (fun (g1 : ¬ ((g (37 * p + 6 * s + 13)) ≠ 2)) => ?_)
  · show Ev X k_X8_shiftedNumber (36, [some (vr 0), some (vi (p : Int)), some (vi (s : Int)), some (vi (w : Int)), some (vi dx), some (vi dy), some (vi (g (37 * p + 6 * s + w + 13))), none], []) (MS I J cc ss) _
    refine ev_n (fr' := (41, [some (vr 0), some (vi (p : Int)), some (vi (s : Int)), some (vi (w : Int)), some (vi dx), some (vi dy), some (vi (g (37 * p + 6 * s + w + 13))), some (vi 0)], [vi 1, vi (w : Int)])) (S' := MS I J cc ss) 4 rfl ?_
    refine ev_ic (c := .eq) (off := 13) rfl (by decide) (fun (g2 : (w : Int) = 1) => ?_) (fun (g2 : ¬ ((w : Int) = 1)) => ?_)
    · show Ev X k_X8_shiftedNumber (54, [some (vr 0), some (vi (p : Int)), some (vi (s : Int)), some (vi (w : Int)), some (vi dx), some (vi dy), some (vi (g (37 * p + 6 * s + w + 13))), some (vi 0)], []) (MS I J cc ss) _
      refine ev_n (fr' := (58, [some (vr 0), some (vi (p : Int)), some (vi (s : Int)), some (vi (w : Int)), some (vi dx), some (vi dy), some (vi (g (37 * p + 6 * s + w + 13))), some (vi 0)], [vi dx, vi (g (37 * p + 6 * s + w + 13))])) (S' := MS I J cc ss) 2 rfl ?_
      refine ev_add (z := (g (37 * p + 6 * s + w + 13)) + dx) rfl (by omega) (by omega) (by omega) ?_
      show Ev X k_X8_shiftedNumber (59, [some (vr 0), some (vi (p : Int)), some (vi (s : Int)), some (vi (w : Int)), some (vi dx), some (vi dy), some (vi (g (37 * p + 6 * s + w + 13))), some (vi 0)], [vi ((g (37 * p + 6 * s + w + 13)) + dx)]) (MS I J cc ss) _
      refine ev_r rfl rfl rfl ?_
      refine ⟨congrArg (fun z => Sum.inl (some (vi z))) ?_, rfl⟩
      unfold goF
      first | (rw [if_pos (by omega)]; done) | (rw [if_pos (by omega)]) | (rw [if_neg (by omega), if_pos (by omega)]) | (rw [if_neg (by omega), if_neg (by omega), Int.add_zero])
    · show Ev X k_X8_shiftedNumber (44, [some (vr 0), some (vi (p : Int)), some (vi (s : Int)), some (vi (w : Int)), some (vi dx), some (vi dy), some (vi (g (37 * p + 6 * s + w + 13))), some (vi 0)], []) (MS I J cc ss) _
      refine ev_n (fr' := (62, [some (vr 0), some (vi (p : Int)), some (vi (s : Int)), some (vi (w : Int)), some (vi dx), some (vi dy), some (vi (g (37 * p + 6 * s + w + 13))), some (vi 0)], [vi 2, vi (w : Int)])) (S' := MS I J cc ss) 4 rfl ?_
      refine ev_ic (c := .eq) (off := 13) rfl (by decide) (fun (g3 : (w : Int) = 2) => ?_) (fun (g3 : ¬ ((w : Int) = 2)) => ?_)
      · show Ev X k_X8_shiftedNumber (75, [some (vr 0), some (vi (p : Int)), some (vi (s : Int)), some (vi (w : Int)), some (vi dx), some (vi dy), some (vi (g (37 * p + 6 * s + w + 13))), some (vi 0)], []) (MS I J cc ss) _
        refine ev_n (fr' := (79, [some (vr 0), some (vi (p : Int)), some (vi (s : Int)), some (vi (w : Int)), some (vi dx), some (vi dy), some (vi (g (37 * p + 6 * s + w + 13))), some (vi 0)], [vi dy, vi (g (37 * p + 6 * s + w + 13))])) (S' := MS I J cc ss) 2 rfl ?_
        refine ev_add (z := (g (37 * p + 6 * s + w + 13)) + dy) rfl (by omega) (by omega) (by omega) ?_
        show Ev X k_X8_shiftedNumber (80, [some (vr 0), some (vi (p : Int)), some (vi (s : Int)), some (vi (w : Int)), some (vi dx), some (vi dy), some (vi (g (37 * p + 6 * s + w + 13))), some (vi 0)], [vi ((g (37 * p + 6 * s + w + 13)) + dy)]) (MS I J cc ss) _
        refine ev_r rfl rfl rfl ?_
        refine ⟨congrArg (fun z => Sum.inl (some (vi z))) ?_, rfl⟩
        unfold goF
        first | (rw [if_pos (by omega)]; done) | (rw [if_pos (by omega)]) | (rw [if_neg (by omega), if_pos (by omega)]) | (rw [if_neg (by omega), if_neg (by omega), Int.add_zero])
      · show Ev X k_X8_shiftedNumber (65, [some (vr 0), some (vi (p : Int)), some (vi (s : Int)), some (vi (w : Int)), some (vi dx), some (vi dy), some (vi (g (37 * p + 6 * s + w + 13))), some (vi 0)], []) (MS I J cc ss) _
        refine ev_n (fr' := (83, [some (vr 0), some (vi (p : Int)), some (vi (s : Int)), some (vi (w : Int)), some (vi dx), some (vi dy), some (vi (g (37 * p + 6 * s + w + 13))), some (vi 0)], [vi (g (37 * p + 6 * s + w + 13))])) (S' := MS I J cc ss) 3 rfl ?_
        refine ev_r rfl rfl rfl ?_
        refine ⟨congrArg (fun z => Sum.inl (some (vi z))) ?_, rfl⟩
        unfold goF
        first | (rw [if_pos (by omega)]; done) | (rw [if_pos (by omega)]) | (rw [if_neg (by omega), if_pos (by omega)]) | (rw [if_neg (by omega), if_neg (by omega), Int.add_zero])
  · show Ev X k_X8_shiftedNumber (32, [some (vr 0), some (vi (p : Int)), some (vi (s : Int)), some (vi (w : Int)), some (vi dx), some (vi dy), some (vi (g (37 * p + 6 * s + w + 13))), none], []) (MS I J cc ss) _
    refine ev_n (fr' := (41, [some (vr 0), some (vi (p : Int)), some (vi (s : Int)), some (vi (w : Int)), some (vi dx), some (vi dy), some (vi (g (37 * p + 6 * s + w + 13))), some (vi 1)], [vi 1, vi (w : Int)])) (S' := MS I J cc ss) 5 rfl ?_
    refine ev_ic (c := .eq) (off := 13) rfl (by decide) (fun (g4 : (w : Int) = 1) => ?_) (fun (g4 : ¬ ((w : Int) = 1)) => ?_)
    · show Ev X k_X8_shiftedNumber (54, [some (vr 0), some (vi (p : Int)), some (vi (s : Int)), some (vi (w : Int)), some (vi dx), some (vi dy), some (vi (g (37 * p + 6 * s + w + 13))), some (vi 1)], []) (MS I J cc ss) _
      refine ev_n (fr' := (58, [some (vr 0), some (vi (p : Int)), some (vi (s : Int)), some (vi (w : Int)), some (vi dx), some (vi dy), some (vi (g (37 * p + 6 * s + w + 13))), some (vi 1)], [vi dx, vi (g (37 * p + 6 * s + w + 13))])) (S' := MS I J cc ss) 2 rfl ?_
      refine ev_add (z := (g (37 * p + 6 * s + w + 13)) + dx) rfl (by omega) (by omega) (by omega) ?_
      show Ev X k_X8_shiftedNumber (59, [some (vr 0), some (vi (p : Int)), some (vi (s : Int)), some (vi (w : Int)), some (vi dx), some (vi dy), some (vi (g (37 * p + 6 * s + w + 13))), some (vi 1)], [vi ((g (37 * p + 6 * s + w + 13)) + dx)]) (MS I J cc ss) _
      refine ev_r rfl rfl rfl ?_
      refine ⟨congrArg (fun z => Sum.inl (some (vi z))) ?_, rfl⟩
      unfold goF
      first | (rw [if_pos (by omega)]; done) | (rw [if_pos (by omega)]) | (rw [if_neg (by omega), if_pos (by omega)]) | (rw [if_neg (by omega), if_neg (by omega), Int.add_zero])
    · show Ev X k_X8_shiftedNumber (44, [some (vr 0), some (vi (p : Int)), some (vi (s : Int)), some (vi (w : Int)), some (vi dx), some (vi dy), some (vi (g (37 * p + 6 * s + w + 13))), some (vi 1)], []) (MS I J cc ss) _
      refine ev_n (fr' := (51, [some (vr 0), some (vi (p : Int)), some (vi (s : Int)), some (vi (w : Int)), some (vi dx), some (vi dy), some (vi (g (37 * p + 6 * s + w + 13))), some (vi 1)], [vi 3, vi (w : Int)])) (S' := MS I J cc ss) 4 rfl ?_
      refine ev_ic (c := .ne) (off := 9) rfl (by decide) (fun (g5 : (w : Int) ≠ 3) => ?_) (fun (g5 : ¬ ((w : Int) ≠ 3)) => ?_)
      · show Ev X k_X8_shiftedNumber (60, [some (vr 0), some (vi (p : Int)), some (vi (s : Int)), some (vi (w : Int)), some (vi dx), some (vi dy), some (vi (g (37 * p + 6 * s + w + 13))), some (vi 1)], []) (MS I J cc ss) _
        refine ev_n (fr' := (62, [some (vr 0), some (vi (p : Int)), some (vi (s : Int)), some (vi (w : Int)), some (vi dx), some (vi dy), some (vi (g (37 * p + 6 * s + w + 13))), some (vi 1)], [vi 2, vi (w : Int)])) (S' := MS I J cc ss) 2 rfl ?_
        refine ev_ic (c := .eq) (off := 13) rfl (by decide) (fun (g6 : (w : Int) = 2) => ?_) (fun (g6 : ¬ ((w : Int) = 2)) => ?_)
        · show Ev X k_X8_shiftedNumber (75, [some (vr 0), some (vi (p : Int)), some (vi (s : Int)), some (vi (w : Int)), some (vi dx), some (vi dy), some (vi (g (37 * p + 6 * s + w + 13))), some (vi 1)], []) (MS I J cc ss) _
          refine ev_n (fr' := (79, [some (vr 0), some (vi (p : Int)), some (vi (s : Int)), some (vi (w : Int)), some (vi dx), some (vi dy), some (vi (g (37 * p + 6 * s + w + 13))), some (vi 1)], [vi dy, vi (g (37 * p + 6 * s + w + 13))])) (S' := MS I J cc ss) 2 rfl ?_
          refine ev_add (z := (g (37 * p + 6 * s + w + 13)) + dy) rfl (by omega) (by omega) (by omega) ?_
          show Ev X k_X8_shiftedNumber (80, [some (vr 0), some (vi (p : Int)), some (vi (s : Int)), some (vi (w : Int)), some (vi dx), some (vi dy), some (vi (g (37 * p + 6 * s + w + 13))), some (vi 1)], [vi ((g (37 * p + 6 * s + w + 13)) + dy)]) (MS I J cc ss) _
          refine ev_r rfl rfl rfl ?_
          refine ⟨congrArg (fun z => Sum.inl (some (vi z))) ?_, rfl⟩
          unfold goF
          first | (rw [if_pos (by omega)]; done) | (rw [if_pos (by omega)]) | (rw [if_neg (by omega), if_pos (by omega)]) | (rw [if_neg (by omega), if_neg (by omega), Int.add_zero])
        · show Ev X k_X8_shiftedNumber (65, [some (vr 0), some (vi (p : Int)), some (vi (s : Int)), some (vi (w : Int)), some (vi dx), some (vi dy), some (vi (g (37 * p + 6 * s + w + 13))), some (vi 1)], []) (MS I J cc ss) _
          refine ev_n (fr' := (72, [some (vr 0), some (vi (p : Int)), some (vi (s : Int)), some (vi (w : Int)), some (vi dx), some (vi dy), some (vi (g (37 * p + 6 * s + w + 13))), some (vi 1)], [vi 4, vi (w : Int)])) (S' := MS I J cc ss) 4 rfl ?_
          refine ev_ic (c := .ne) (off := 9) rfl (by decide) (fun (g7 : (w : Int) ≠ 4) => ?_) (fun (g7 : ¬ ((w : Int) ≠ 4)) => ?_)
          · show Ev X k_X8_shiftedNumber (81, [some (vr 0), some (vi (p : Int)), some (vi (s : Int)), some (vi (w : Int)), some (vi dx), some (vi dy), some (vi (g (37 * p + 6 * s + w + 13))), some (vi 1)], []) (MS I J cc ss) _
            refine ev_n (fr' := (83, [some (vr 0), some (vi (p : Int)), some (vi (s : Int)), some (vi (w : Int)), some (vi dx), some (vi dy), some (vi (g (37 * p + 6 * s + w + 13))), some (vi 1)], [vi (g (37 * p + 6 * s + w + 13))])) (S' := MS I J cc ss) 1 rfl ?_
            refine ev_r rfl rfl rfl ?_
            refine ⟨congrArg (fun z => Sum.inl (some (vi z))) ?_, rfl⟩
            unfold goF
            first | (rw [if_pos (by omega)]; done) | (rw [if_pos (by omega)]) | (rw [if_neg (by omega), if_pos (by omega)]) | (rw [if_neg (by omega), if_neg (by omega), Int.add_zero])
          · show Ev X k_X8_shiftedNumber (75, [some (vr 0), some (vi (p : Int)), some (vi (s : Int)), some (vi (w : Int)), some (vi dx), some (vi dy), some (vi (g (37 * p + 6 * s + w + 13))), some (vi 1)], []) (MS I J cc ss) _
            refine ev_n (fr' := (79, [some (vr 0), some (vi (p : Int)), some (vi (s : Int)), some (vi (w : Int)), some (vi dx), some (vi dy), some (vi (g (37 * p + 6 * s + w + 13))), some (vi 1)], [vi dy, vi (g (37 * p + 6 * s + w + 13))])) (S' := MS I J cc ss) 2 rfl ?_
            refine ev_add (z := (g (37 * p + 6 * s + w + 13)) + dy) rfl (by omega) (by omega) (by omega) ?_
            show Ev X k_X8_shiftedNumber (80, [some (vr 0), some (vi (p : Int)), some (vi (s : Int)), some (vi (w : Int)), some (vi dx), some (vi dy), some (vi (g (37 * p + 6 * s + w + 13))), some (vi 1)], [vi ((g (37 * p + 6 * s + w + 13)) + dy)]) (MS I J cc ss) _
            refine ev_r rfl rfl rfl ?_
            refine ⟨congrArg (fun z => Sum.inl (some (vi z))) ?_, rfl⟩
            unfold goF
            first | (rw [if_pos (by omega)]; done) | (rw [if_pos (by omega)]) | (rw [if_neg (by omega), if_pos (by omega)]) | (rw [if_neg (by omega), if_neg (by omega), Int.add_zero])
      · show Ev X k_X8_shiftedNumber (54, [some (vr 0), some (vi (p : Int)), some (vi (s : Int)), some (vi (w : Int)), some (vi dx), some (vi dy), some (vi (g (37 * p + 6 * s + w + 13))), some (vi 1)], []) (MS I J cc ss) _
        refine ev_n (fr' := (58, [some (vr 0), some (vi (p : Int)), some (vi (s : Int)), some (vi (w : Int)), some (vi dx), some (vi dy), some (vi (g (37 * p + 6 * s + w + 13))), some (vi 1)], [vi dx, vi (g (37 * p + 6 * s + w + 13))])) (S' := MS I J cc ss) 2 rfl ?_
        refine ev_add (z := (g (37 * p + 6 * s + w + 13)) + dx) rfl (by omega) (by omega) (by omega) ?_
        show Ev X k_X8_shiftedNumber (59, [some (vr 0), some (vi (p : Int)), some (vi (s : Int)), some (vi (w : Int)), some (vi dx), some (vi dy), some (vi (g (37 * p + 6 * s + w + 13))), some (vi 1)], [vi ((g (37 * p + 6 * s + w + 13)) + dx)]) (MS I J cc ss) _
        refine ev_r rfl rfl rfl ?_
        refine ⟨congrArg (fun z => Sum.inl (some (vi z))) ?_, rfl⟩
        unfold goF
        first | (rw [if_pos (by omega)]; done) | (rw [if_pos (by omega)]) | (rw [if_neg (by omega), if_pos (by omega)]) | (rw [if_neg (by omega), if_neg (by omega), Int.add_zero])
theorem sp_canShift (X : AX) (I J : Nat → Nat → Int) (cc ss : Nat) {g : F1} (p s : Nat) (dx dy : Int) (hP : PRep I J 5 g) (hwp : WP g) (hp : (p : Int) < g 11) (hs : (s : Int) < g (37 * p + 12)) (hdx : -48 ≤ dx ∧ dx ≤ 48) (hdy : -48 ≤ dy ∧ dy ≤ 48) : Ev X k_X8_canShift (0, [some (vr 0), some (vi (p : Int)), some (vi (s : Int)), some (vi dx), some (vi dy), none, none], []) (MS I J cc ss) (fun o T => o = .inl (some (vi (if canP g p s dx dy then 1 else 0))) ∧ T = MS I J cc ss) := by
  have h8 := hwp.2.1
  have h6 : ∀ q : Nat, (q : Int) < g 11 → g (37 * q + 12) ≤ 6 := fun q hq => (hwp.2.2 q hq).2.1
  refine ev_n (fr' := (10, [some (vr 0), some (vi (p : Int)), some (vi (s : Int)), some (vi dx), some (vi dy), none, none], [vi 0, vi (s : Int), vi (p : Int), vr 5])) (S' := MS I J cc ss) 6 rfl ?_
  refine ev_cv rfl rfl rfl ⟨Nat.le_of_ble_eq_true rfl, Nat.le_of_ble_eq_true rfl⟩ (sp_number2_5 X _ _ _ _ p s 0 hP h8 h6 (by omega) (by omega) (by omega)) ?_
  show Ev X k_X8_canShift (13, [some (vr 0), some (vi (p : Int)), some (vi (s : Int)), some (vi dx), some (vi dy), none, none], [vi (g (37 * p + 6 * s + 13))]) (MS I J cc ss) _
  refine ev_n (fr' := (33, [some (vr 0), some (vi (p : Int)), some (vi (s : Int)), some (vi dx), some (vi dy), some (vi (g (37 * p + 6 * s + 13))), some (vi 1)], [vi 1, vi (s : Int), vi (p : Int), vr 0, vi 1, vi (g (37 * p + 6 * s + 13))])) (S' := MS I J cc ss) 12 rfl ?_
  refine ev_n (fr' := (36, [some (vr 0), some (vi (p : Int)), some (vi (s : Int)), some (vi dx), some (vi dy), some (vi (g (37 * p + 6 * s + 13))), some (vi 1)], [vi dy, vi dx, vi 1, vi (s : Int), vi (p : Int), vr 0, vi 1, vi (g (37 * p + 6 * s + 13))])) (S' := MS I J cc ss) 2 rfl ?_
  refine ev_cv rfl rfl rfl ⟨Nat.le_of_ble_eq_true rfl, Nat.le_of_ble_eq_true rfl⟩ (sp_shifted X _ _ _ _ p s 1 dx dy hP h8 h6 (by omega) (by omega) (by omega) (wp_num hwp (by omega) (by omega) (by omega)) (by omega) (by omega)) ?_
  show Ev X k_X8_canShift (39, [some (vr 0), some (vi (p : Int)), some (vi (s : Int)), some (vi dx), some (vi dy), some (vi (g (37 * p + 6 * s + 13))), some (vi 1)], [vi (g (37 * p + 6 * s + 14) + goF (g (37 * p + 6 * s + 13)) 1 dx dy), vi 1, vi (g (37 * p + 6 * s + 13))]) (MS I J cc ss) _
  refine ev_cv rfl rfl rfl ⟨Nat.le_of_ble_eq_true rfl, Nat.le_of_ble_eq_true rfl⟩ (sp_fitsShape X _ (g (37 * p + 6 * s + 13)) 1 (g (37 * p + 6 * s + 14) + goF (g (37 * p + 6 * s + 13)) 1 dx dy) (by omega)) ?_
  show Ev X k_X8_canShift (42, [some (vr 0), some (vi (p : Int)), some (vi (s : Int)), some (vi dx), some (vi dy), some (vi (g (37 * p + 6 * s + 13))), some (vi 1)], [vi (if fitP (g (37 * p + 6 * s + 13)) 1 (g (37 * p + 6 * s + 14) + goF (g (37 * p + 6 * s + 13)) 1 dx dy) then 1 else 0)]) (MS I J cc ss) _
  refine ev_bne _ rfl (by decide) (fun (g1 : fitP (g (37 * p + 6 * s + 13)) 1 (g (37 * p + 6 * s + 14) + goF (g (37 * p + 6 * s + 13)) 1 dx dy)) => ?_) (fun (g1 : ¬ (fitP (g (37 * p + 6 * s + 13)) 1 (g (37 * p + 6 * s + 14) + goF (g (37 * p + 6 * s + 13)) 1 dx dy))) => ?_)
  · show Ev X k_X8_canShift (47, [some (vr 0), some (vi (p : Int)), some (vi (s : Int)), some (vi dx), some (vi dy), some (vi (g (37 * p + 6 * s + 13))), some (vi 1)], []) (MS I J cc ss) _
    refine ev_n (fr' := (34, [some (vr 0), some (vi (p : Int)), some (vi (s : Int)), some (vi dx), some (vi dy), some (vi (g (37 * p + 6 * s + 13))), some (vi 2)], [vi dx, vi 2, vi (s : Int), vi (p : Int), vr 0, vi 2, vi (g (37 * p + 6 * s + 13))])) (S' := MS I J cc ss) 12 rfl ?_
    refine ev_n (fr' := (36, [some (vr 0), some (vi (p : Int)), some (vi (s : Int)), some (vi dx), some (vi dy), some (vi (g (37 * p + 6 * s + 13))), some (vi 2)], [vi dy, vi dx, vi 2, vi (s : Int), vi (p : Int), vr 0, vi 2, vi (g (37 * p + 6 * s + 13))])) (S' := MS I J cc ss) 1 rfl ?_
    refine ev_cv rfl rfl rfl ⟨Nat.le_of_ble_eq_true rfl, Nat.le_of_ble_eq_true rfl⟩ (sp_shifted X _ _ _ _ p s 2 dx dy hP h8 h6 (by omega) (by omega) (by omega) (wp_num hwp (by omega) (by omega) (by omega)) (by omega) (by omega)) ?_
    show Ev X k_X8_canShift (39, [some (vr 0), some (vi (p : Int)), some (vi (s : Int)), some (vi dx), some (vi dy), some (vi (g (37 * p + 6 * s + 13))), some (vi 2)], [vi (g (37 * p + 6 * s + 15) + goF (g (37 * p + 6 * s + 13)) 2 dx dy), vi 2, vi (g (37 * p + 6 * s + 13))]) (MS I J cc ss) _
    refine ev_cv rfl rfl rfl ⟨Nat.le_of_ble_eq_true rfl, Nat.le_of_ble_eq_true rfl⟩ (sp_fitsShape X _ (g (37 * p + 6 * s + 13)) 2 (g (37 * p + 6 * s + 15) + goF (g (37 * p + 6 * s + 13)) 2 dx dy) (by omega)) ?_
    show Ev X k_X8_canShift (42, [some (vr 0), some (vi (p : Int)), some (vi (s : Int)), some (vi dx), some (vi dy), some (vi (g (37 * p + 6 * s + 13))), some (vi 2)], [vi (if fitP (g (37 * p + 6 * s + 13)) 2 (g (37 * p + 6 * s + 15) + goF (g (37 * p + 6 * s + 13)) 2 dx dy) then 1 else 0)]) (MS I J cc ss) _
    refine ev_bne _ rfl (by decide) (fun (g2 : fitP (g (37 * p + 6 * s + 13)) 2 (g (37 * p + 6 * s + 15) + goF (g (37 * p + 6 * s + 13)) 2 dx dy)) => ?_) (fun (g2 : ¬ (fitP (g (37 * p + 6 * s + 13)) 2 (g (37 * p + 6 * s + 15) + goF (g (37 * p + 6 * s + 13)) 2 dx dy))) => ?_)
    · show Ev X k_X8_canShift (47, [some (vr 0), some (vi (p : Int)), some (vi (s : Int)), some (vi dx), some (vi dy), some (vi (g (37 * p + 6 * s + 13))), some (vi 2)], []) (MS I J cc ss) _
      refine ev_n (fr' := (34, [some (vr 0), some (vi (p : Int)), some (vi (s : Int)), some (vi dx), some (vi dy), some (vi (g (37 * p + 6 * s + 13))), some (vi 3)], [vi dx, vi 3, vi (s : Int), vi (p : Int), vr 0, vi 3, vi (g (37 * p + 6 * s + 13))])) (S' := MS I J cc ss) 12 rfl ?_
      refine ev_n (fr' := (36, [some (vr 0), some (vi (p : Int)), some (vi (s : Int)), some (vi dx), some (vi dy), some (vi (g (37 * p + 6 * s + 13))), some (vi 3)], [vi dy, vi dx, vi 3, vi (s : Int), vi (p : Int), vr 0, vi 3, vi (g (37 * p + 6 * s + 13))])) (S' := MS I J cc ss) 1 rfl ?_
      refine ev_cv rfl rfl rfl ⟨Nat.le_of_ble_eq_true rfl, Nat.le_of_ble_eq_true rfl⟩ (sp_shifted X _ _ _ _ p s 3 dx dy hP h8 h6 (by omega) (by omega) (by omega) (wp_num hwp (by omega) (by omega) (by omega)) (by omega) (by omega)) ?_
      show Ev X k_X8_canShift (39, [some (vr 0), some (vi (p : Int)), some (vi (s : Int)), some (vi dx), some (vi dy), some (vi (g (37 * p + 6 * s + 13))), some (vi 3)], [vi (g (37 * p + 6 * s + 16) + goF (g (37 * p + 6 * s + 13)) 3 dx dy), vi 3, vi (g (37 * p + 6 * s + 13))]) (MS I J cc ss) _
      refine ev_cv rfl rfl rfl ⟨Nat.le_of_ble_eq_true rfl, Nat.le_of_ble_eq_true rfl⟩ (sp_fitsShape X _ (g (37 * p + 6 * s + 13)) 3 (g (37 * p + 6 * s + 16) + goF (g (37 * p + 6 * s + 13)) 3 dx dy) (by omega)) ?_
      show Ev X k_X8_canShift (42, [some (vr 0), some (vi (p : Int)), some (vi (s : Int)), some (vi dx), some (vi dy), some (vi (g (37 * p + 6 * s + 13))), some (vi 3)], [vi (if fitP (g (37 * p + 6 * s + 13)) 3 (g (37 * p + 6 * s + 16) + goF (g (37 * p + 6 * s + 13)) 3 dx dy) then 1 else 0)]) (MS I J cc ss) _
      refine ev_bne _ rfl (by decide) (fun (g3 : fitP (g (37 * p + 6 * s + 13)) 3 (g (37 * p + 6 * s + 16) + goF (g (37 * p + 6 * s + 13)) 3 dx dy)) => ?_) (fun (g3 : ¬ (fitP (g (37 * p + 6 * s + 13)) 3 (g (37 * p + 6 * s + 16) + goF (g (37 * p + 6 * s + 13)) 3 dx dy))) => ?_)
      · show Ev X k_X8_canShift (47, [some (vr 0), some (vi (p : Int)), some (vi (s : Int)), some (vi dx), some (vi dy), some (vi (g (37 * p + 6 * s + 13))), some (vi 3)], []) (MS I J cc ss) _
        refine ev_n (fr' := (34, [some (vr 0), some (vi (p : Int)), some (vi (s : Int)), some (vi dx), some (vi dy), some (vi (g (37 * p + 6 * s + 13))), some (vi 4)], [vi dx, vi 4, vi (s : Int), vi (p : Int), vr 0, vi 4, vi (g (37 * p + 6 * s + 13))])) (S' := MS I J cc ss) 12 rfl ?_
        refine ev_n (fr' := (36, [some (vr 0), some (vi (p : Int)), some (vi (s : Int)), some (vi dx), some (vi dy), some (vi (g (37 * p + 6 * s + 13))), some (vi 4)], [vi dy, vi dx, vi 4, vi (s : Int), vi (p : Int), vr 0, vi 4, vi (g (37 * p + 6 * s + 13))])) (S' := MS I J cc ss) 1 rfl ?_
        refine ev_cv rfl rfl rfl ⟨Nat.le_of_ble_eq_true rfl, Nat.le_of_ble_eq_true rfl⟩ (sp_shifted X _ _ _ _ p s 4 dx dy hP h8 h6 (by omega) (by omega) (by omega) (wp_num hwp (by omega) (by omega) (by omega)) (by omega) (by omega)) ?_
        show Ev X k_X8_canShift (39, [some (vr 0), some (vi (p : Int)), some (vi (s : Int)), some (vi dx), some (vi dy), some (vi (g (37 * p + 6 * s + 13))), some (vi 4)], [vi (g (37 * p + 6 * s + 17) + goF (g (37 * p + 6 * s + 13)) 4 dx dy), vi 4, vi (g (37 * p + 6 * s + 13))]) (MS I J cc ss) _
        refine ev_cv rfl rfl rfl ⟨Nat.le_of_ble_eq_true rfl, Nat.le_of_ble_eq_true rfl⟩ (sp_fitsShape X _ (g (37 * p + 6 * s + 13)) 4 (g (37 * p + 6 * s + 17) + goF (g (37 * p + 6 * s + 13)) 4 dx dy) (by omega)) ?_
        show Ev X k_X8_canShift (42, [some (vr 0), some (vi (p : Int)), some (vi (s : Int)), some (vi dx), some (vi dy), some (vi (g (37 * p + 6 * s + 13))), some (vi 4)], [vi (if fitP (g (37 * p + 6 * s + 13)) 4 (g (37 * p + 6 * s + 17) + goF (g (37 * p + 6 * s + 13)) 4 dx dy) then 1 else 0)]) (MS I J cc ss) _
        refine ev_bne _ rfl (by decide) (fun (g4 : fitP (g (37 * p + 6 * s + 13)) 4 (g (37 * p + 6 * s + 17) + goF (g (37 * p + 6 * s + 13)) 4 dx dy)) => ?_) (fun (g4 : ¬ (fitP (g (37 * p + 6 * s + 13)) 4 (g (37 * p + 6 * s + 17) + goF (g (37 * p + 6 * s + 13)) 4 dx dy))) => ?_)
        · show Ev X k_X8_canShift (47, [some (vr 0), some (vi (p : Int)), some (vi (s : Int)), some (vi dx), some (vi dy), some (vi (g (37 * p + 6 * s + 13))), some (vi 4)], []) (MS I J cc ss) _
          refine ev_n (fr' := (34, [some (vr 0), some (vi (p : Int)), some (vi (s : Int)), some (vi dx), some (vi dy), some (vi (g (37 * p + 6 * s + 13))), some (vi 5)], [vi dx, vi 5, vi (s : Int), vi (p : Int), vr 0, vi 5, vi (g (37 * p + 6 * s + 13))])) (S' := MS I J cc ss) 12 rfl ?_
          refine ev_n (fr' := (36, [some (vr 0), some (vi (p : Int)), some (vi (s : Int)), some (vi dx), some (vi dy), some (vi (g (37 * p + 6 * s + 13))), some (vi 5)], [vi dy, vi dx, vi 5, vi (s : Int), vi (p : Int), vr 0, vi 5, vi (g (37 * p + 6 * s + 13))])) (S' := MS I J cc ss) 1 rfl ?_
          refine ev_cv rfl rfl rfl ⟨Nat.le_of_ble_eq_true rfl, Nat.le_of_ble_eq_true rfl⟩ (sp_shifted X _ _ _ _ p s 5 dx dy hP h8 h6 (by omega) (by omega) (by omega) (wp_num hwp (by omega) (by omega) (by omega)) (by omega) (by omega)) ?_
          show Ev X k_X8_canShift (39, [some (vr 0), some (vi (p : Int)), some (vi (s : Int)), some (vi dx), some (vi dy), some (vi (g (37 * p + 6 * s + 13))), some (vi 5)], [vi (g (37 * p + 6 * s + 18) + goF (g (37 * p + 6 * s + 13)) 5 dx dy), vi 5, vi (g (37 * p + 6 * s + 13))]) (MS I J cc ss) _
          refine ev_cv rfl rfl rfl ⟨Nat.le_of_ble_eq_true rfl, Nat.le_of_ble_eq_true rfl⟩ (sp_fitsShape X _ (g (37 * p + 6 * s + 13)) 5 (g (37 * p + 6 * s + 18) + goF (g (37 * p + 6 * s + 13)) 5 dx dy) (by omega)) ?_
          show Ev X k_X8_canShift (42, [some (vr 0), some (vi (p : Int)), some (vi (s : Int)), some (vi dx), some (vi dy), some (vi (g (37 * p + 6 * s + 13))), some (vi 5)], [vi (if fitP (g (37 * p + 6 * s + 13)) 5 (g (37 * p + 6 * s + 18) + goF (g (37 * p + 6 * s + 13)) 5 dx dy) then 1 else 0)]) (MS I J cc ss) _
          refine ev_bne _ rfl (by decide) (fun (g5 : fitP (g (37 * p + 6 * s + 13)) 5 (g (37 * p + 6 * s + 18) + goF (g (37 * p + 6 * s + 13)) 5 dx dy)) => ?_) (fun (g5 : ¬ (fitP (g (37 * p + 6 * s + 13)) 5 (g (37 * p + 6 * s + 18) + goF (g (37 * p + 6 * s + 13)) 5 dx dy))) => ?_)
          · show Ev X k_X8_canShift (47, [some (vr 0), some (vi (p : Int)), some (vi (s : Int)), some (vi dx), some (vi dy), some (vi (g (37 * p + 6 * s + 13))), some (vi 5)], []) (MS I J cc ss) _
            refine ev_n (fr' := (54, [some (vr 0), some (vi (p : Int)), some (vi (s : Int)), some (vi dx), some (vi dy), some (vi (g (37 * p + 6 * s + 13))), some (vi 6)], [vi 1])) (S' := MS I J cc ss) 6 rfl ?_
            refine ev_r rfl rfl rfl ?_
            exact ⟨congrArg (fun z => Sum.inl (some (vi z))) (if_pos (by omega)).symm, rfl⟩
          · show Ev X k_X8_canShift (45, [some (vr 0), some (vi (p : Int)), some (vi (s : Int)), some (vi dx), some (vi dy), some (vi (g (37 * p + 6 * s + 13))), some (vi 5)], []) (MS I J cc ss) _
            refine ev_n (fr' := (46, [some (vr 0), some (vi (p : Int)), some (vi (s : Int)), some (vi dx), some (vi dy), some (vi (g (37 * p + 6 * s + 13))), some (vi 5)], [vi 0])) (S' := MS I J cc ss) 1 rfl ?_
            refine ev_r rfl rfl rfl ?_
            exact ⟨congrArg (fun z => Sum.inl (some (vi z))) (if_neg (by omega)).symm, rfl⟩
        · show Ev X k_X8_canShift (45, [some (vr 0), some (vi (p : Int)), some (vi (s : Int)), some (vi dx), some (vi dy), some (vi (g (37 * p + 6 * s + 13))), some (vi 4)], []) (MS I J cc ss) _
          refine ev_n (fr' := (46, [some (vr 0), some (vi (p : Int)), some (vi (s : Int)), some (vi dx), some (vi dy), some (vi (g (37 * p + 6 * s + 13))), some (vi 4)], [vi 0])) (S' := MS I J cc ss) 1 rfl ?_
          refine ev_r rfl rfl rfl ?_
          exact ⟨congrArg (fun z => Sum.inl (some (vi z))) (if_neg (by omega)).symm, rfl⟩
      · show Ev X k_X8_canShift (45, [some (vr 0), some (vi (p : Int)), some (vi (s : Int)), some (vi dx), some (vi dy), some (vi (g (37 * p + 6 * s + 13))), some (vi 3)], []) (MS I J cc ss) _
        refine ev_n (fr' := (46, [some (vr 0), some (vi (p : Int)), some (vi (s : Int)), some (vi dx), some (vi dy), some (vi (g (37 * p + 6 * s + 13))), some (vi 3)], [vi 0])) (S' := MS I J cc ss) 1 rfl ?_
        refine ev_r rfl rfl rfl ?_
        exact ⟨congrArg (fun z => Sum.inl (some (vi z))) (if_neg (by omega)).symm, rfl⟩
    · show Ev X k_X8_canShift (45, [some (vr 0), some (vi (p : Int)), some (vi (s : Int)), some (vi dx), some (vi dy), some (vi (g (37 * p + 6 * s + 13))), some (vi 2)], []) (MS I J cc ss) _
      refine ev_n (fr' := (46, [some (vr 0), some (vi (p : Int)), some (vi (s : Int)), some (vi dx), some (vi dy), some (vi (g (37 * p + 6 * s + 13))), some (vi 2)], [vi 0])) (S' := MS I J cc ss) 1 rfl ?_
      refine ev_r rfl rfl rfl ?_
      exact ⟨congrArg (fun z => Sum.inl (some (vi z))) (if_neg (by omega)).symm, rfl⟩
  · show Ev X k_X8_canShift (45, [some (vr 0), some (vi (p : Int)), some (vi (s : Int)), some (vi dx), some (vi dy), some (vi (g (37 * p + 6 * s + 13))), some (vi 1)], []) (MS I J cc ss) _
    refine ev_n (fr' := (46, [some (vr 0), some (vi (p : Int)), some (vi (s : Int)), some (vi dx), some (vi dy), some (vi (g (37 * p + 6 * s + 13))), some (vi 1)], [vi 0])) (S' := MS I J cc ss) 1 rfl ?_
    refine ev_r rfl rfl rfl ?_
    exact ⟨congrArg (fun z => Sum.inl (some (vi z))) (if_neg (by omega)).symm, rfl⟩
