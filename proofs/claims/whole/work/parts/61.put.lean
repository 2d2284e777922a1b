/-! SHAPES PUT (printed by gen/g61.py) -/
theorem lp_putSh (X : AX) (I J : Nat → Nat → Int) (cc ss : Nat) {g : F1} (I0 : F2) (p s t : Nat) (dx dy : Int) (hg8 : g 11 ≤ 8) (hg6 : ∀ q : Nat, (q : Int) < g 11 → g (37 * q + 12) ≤ 6) (hp : (p : Int) < g 11) (hs : (s : Int) < g (37 * p + 12)) (ht : (t : Int) < g (37 * p + 12)) (hrg : ∀ j : Nat, j < 6 → 0 ≤ g (37 * p + 6 * s + j + 13) ∧ g (37 * p + 6 * s + j + 13) ≤ 48) (hdx : -48 ≤ dx ∧ dx ≤ 48) (hdy : -48 ≤ dy ∧ dy ≤ 48) (w : Nat) (hw : w ≤ 6) (hO : ∀ a, a ≠ 8 → I a = I0 a) (hR : PRep I J 5 (wrS g (37 * p + 6 * t + 13) w (fun j => g (37 * p + 6 * s + j + 13) + goF (g (37 * p + 6 * s + 13)) (j : Int) dx dy))) : Ev X k_X8_putShifted (3, [some (vr 0), some (vi (p : Int)), some (vi (s : Int)), some (vi (t : Int)), some (vi dx), some (vi dy), some (vi (w : Int))], []) (MS I J cc ss) (PV cc ss none (fun I' J' => J' = J ∧ (∀ a, a ≠ 8 → I' a = I0 a) ∧ PRep I' J 5 (wrS g (37 * p + 6 * t + 13) 6 (fun j => g (37 * p + 6 * s + j + 13) + goF (g (37 * p + 6 * s + 13)) (j : Int) dx dy)))) := by
  have hp6 := hg6 p hp
  have e11 : (wrS g (37 * p + 6 * t + 13) w (fun j => g (37 * p + 6 * s + j + 13) + goF (g (37 * p + 6 * s + 13)) (j : Int) dx dy)) 11 = g 11 := wrS_out (by omega)
  have h8 : (wrS g (37 * p + 6 * t + 13) w (fun j => g (37 * p + 6 * s + j + 13) + goF (g (37 * p + 6 * s + 13)) (j : Int) dx dy)) 11 ≤ 8 := by rw [e11]; exact hg8
  have ec : ∀ q : Nat, (q : Int) < g 11 → (wrS g (37 * p + 6 * t + 13) w (fun j => g (37 * p + 6 * s + j + 13) + goF (g (37 * p + 6 * s + 13)) (j : Int) dx dy)) (37 * q + 12) = g (37 * q + 12) := fun q hq => wrS_out (by
    have := hg6 q hq
    rcases Nat.lt_trichotomy q p with z | z | z <;> omega)
  have h6 : ∀ q : Nat, (q : Int) < (wrS g (37 * p + 6 * t + 13) w (fun j => g (37 * p + 6 * s + j + 13) + goF (g (37 * p + 6 * s + 13)) (j : Int) dx dy)) 11 → (wrS g (37 * p + 6 * t + 13) w (fun j => g (37 * p + 6 * s + j + 13) + goF (g (37 * p + 6 * s + 13)) (j : Int) dx dy)) (37 * q + 12) ≤ 6 := fun q hq => by
    rw [e11] at hq
    rw [ec q hq]; exact hg6 q hq
  have ecp := ec p hp
  have ew : w < 6 → (wrS g (37 * p + 6 * t + 13) w (fun j => g (37 * p + 6 * s + j + 13) + goF (g (37 * p + 6 * s + 13)) (j : Int) dx dy)) (37 * p + 6 * s + w + 13) = g (37 * p + 6 * s + w + 13) := fun hw => wrS_out (by rcases Nat.lt_trichotomy s t with z | z | z <;> omega)
  have e0 : (wrS g (37 * p + 6 * t + 13) w (fun j => g (37 * p + 6 * s + j + 13) + goF (g (37 * p + 6 * s + 13)) (j : Int) dx dy)) (37 * p + 6 * s + 13) = g (37 * p + 6 * s + 13) := by
    by_cases z : s = t ∧ 0 < w
    · obtain ⟨rfl, z⟩ := z
      have := wrS_in (g := g) (lo := 37 * p + 6 * s + 13) (w := w) (j := 0) (v := (fun j => g (37 * p + 6 * s + j + 13) + goF (g (37 * p + 6 * s + 13)) (j : Int) dx dy)) z
      rw [Nat.add_zero] at this; rw [this]
      show g (37 * p + 6 * s + 0 + 13) + goF _ ((0 : Nat) : Int) dx dy = _
      unfold goF; rw [if_neg (by omega), if_neg (by omega), Nat.add_zero, Int.add_zero]
    · exact wrS_out (by rcases Nat.lt_trichotomy s t with z2 | z2 | z2 <;> omega)
  refine ev_n (fr' := (6, [some (vr 0), some (vi (p : Int)), some (vi (s : Int)), some (vi (t : Int)), some (vi dx), some (vi dy), some (vi (w : Int))], [vi 5, vi (w : Int)])) (S' := MS I J cc ss) 2 rfl ?_
  refine ev_ic (c := .gt) (off := 35) rfl (by decide) (fun (g1 : 5 < (w : Int)) => ?_) (fun (g1 : ¬ (5 < (w : Int))) => ?_)
  · show Ev X k_X8_putShifted (41, [some (vr 0), some (vi (p : Int)), some (vi (s : Int)), some (vi (t : Int)), some (vi dx), some (vi dy), some (vi (w : Int))], []) (MS I J cc ss) _
    refine ev_r rfl rfl rfl ?_
    have e9 : w = 6 := by omega
    rw [e9] at hR
    exact ⟨_, _, rfl, rfl, rfl, hO, hR⟩
  · show Ev X k_X8_putShifted (9, [some (vr 0), some (vi (p : Int)), some (vi (s : Int)), some (vi (t : Int)), some (vi dx), some (vi dy), some (vi (w : Int))], []) (MS I J cc ss) _
    refine ev_n (fr' := (29, [some (vr 0), some (vi (p : Int)), some (vi (s : Int)), some (vi (t : Int)), some (vi dx), some (vi dy), some (vi (w : Int))], [vi dy, vi dx, vi (w : Int), vi (s : Int), vi (p : Int), vr 0, vi (w : Int), vi (t : Int), vi (p : Int), vr 5])) (S' := MS I J cc ss) 12 rfl ?_
    refine ev_cv rfl rfl rfl ⟨Nat.le_of_ble_eq_true rfl, Nat.le_of_ble_eq_true rfl⟩ (sp_shifted X _ _ _ _ p s w dx dy hR h8 h6 (by omega) (by omega) (by omega) (by rw [ew (by omega)]; exact hrg w (by omega)) hdx hdy) ?_
    show Ev X k_X8_putShifted (32, [some (vr 0), some (vi (p : Int)), some (vi (s : Int)), some (vi (t : Int)), some (vi dx), some (vi dy), some (vi (w : Int))], [vi ((wrS g (37 * p + 6 * t + 13) w (fun j => g (37 * p + 6 * s + j + 13) + goF (g (37 * p + 6 * s + 13)) (j : Int) dx dy)) (37 * p + 6 * s + w + 13) + goF ((wrS g (37 * p + 6 * t + 13) w (fun j => g (37 * p + 6 * s + j + 13) + goF (g (37 * p + 6 * s + 13)) (j : Int) dx dy)) (37 * p + 6 * s + 13)) (w : Int) dx dy), vi (w : Int), vi (t : Int), vi (p : Int), vr 5]) (MS I J cc ss) _
    rw [ew (by omega), e0]
    refine ev_cv rfl rfl rfl ⟨Nat.le_of_ble_eq_true rfl, Nat.le_of_ble_eq_true rfl⟩ (sp_putNumber_5 X _ _ _ _ p t w (g (37 * p + 6 * s + w + 13) + goF (g (37 * p + 6 * s + 13)) (w : Int) dx dy) hR h8 h6 (by omega) (by omega) (by omega)) ?_
    show Ev X k_X8_putShifted (35, [some (vr 0), some (vi (p : Int)), some (vi (s : Int)), some (vi (t : Int)), some (vi dx), some (vi dy), some (vi (w : Int))], []) (MS (up2 I 8 (36 * p + 6 * t + w) (g (37 * p + 6 * s + w + 13) + goF (g (37 * p + 6 * s + 13)) (w : Int) dx dy)) J cc ss) _
    refine ev_inc (z := (w : Int) + 1) rfl rfl (by omega) (by omega) (by omega) rfl ?_
    show Ev X k_X8_putShifted (38, [some (vr 0), some (vi (p : Int)), some (vi (s : Int)), some (vi (t : Int)), some (vi dx), some (vi dy), some (vi ((w : Int) + 1))], []) (MS (up2 I 8 (36 * p + 6 * t + w) (g (37 * p + 6 * s + w + 13) + goF (g (37 * p + 6 * s + 13)) (w : Int) dx dy)) J cc ss) _
    refine ev_n (fr' := (3, [some (vr 0), some (vi (p : Int)), some (vi (s : Int)), some (vi (t : Int)), some (vi dx), some (vi dy), some (vi ((w : Int) + 1))], [])) (S' := MS (up2 I 8 (36 * p + 6 * t + w) (g (37 * p + 6 * s + w + 13) + goF (g (37 * p + 6 * s + 13)) (w : Int) dx dy)) J cc ss) 1 rfl ?_
    have hPn := PRep.put hR (p := p) (s := t) (w := w) (v := g (37 * p + 6 * s + w + 13) + goF (g (37 * p + 6 * s + 13)) (w : Int) dx dy) (by omega) h8 h6 (by omega) (by omega)
    have hsh := wrS_next g (37 * p + 6 * t + 13) w (fun j => g (37 * p + 6 * s + j + 13) + goF (g (37 * p + 6 * s + 13)) (j : Int) dx dy)
    rw [show (37 * p + 6 * t + 13) + w = 37 * p + 6 * t + w + 13 by omega] at hsh
    rw [hsh] at hPn
    exact lp_putSh X _ _ cc ss I0 p s t dx dy hg8 hg6 hp hs ht hrg hdx hdy (w + 1) (by omega) (fun a h1 => by rw [up2_row _ _ _ _ h1]; exact hO a h1) hPn
termination_by 7 - w
decreasing_by all_goals omega
theorem sp_putSh (X : AX) (I J : Nat → Nat → Int) (cc ss : Nat) {g : F1} (p s t : Nat) (dx dy : Int) (hP : PRep I J 5 g) (hg8 : g 11 ≤ 8) (hg6 : ∀ q : Nat, (q : Int) < g 11 → g (37 * q + 12) ≤ 6) (hp : (p : Int) < g 11) (hs : (s : Int) < g (37 * p + 12)) (ht : (t : Int) < g (37 * p + 12)) (hrg : ∀ j : Nat, j < 6 → 0 ≤ g (37 * p + 6 * s + j + 13) ∧ g (37 * p + 6 * s + j + 13) ≤ 48) (hdx : -48 ≤ dx ∧ dx ≤ 48) (hdy : -48 ≤ dy ∧ dy ≤ 48) : Ev X k_X8_putShifted (0, [some (vr 0), some (vi (p : Int)), some (vi (s : Int)), some (vi (t : Int)), some (vi dx), some (vi dy), none], []) (MS I J cc ss) (PV cc ss none (fun I' J' => J' = J ∧ (∀ a, a ≠ 8 → I' a = I a) ∧ PRep I' J 5 (wrS g (37 * p + 6 * t + 13) 6 (fun j => g (37 * p + 6 * s + j + 13) + goF (g (37 * p + 6 * s + 13)) (j : Int) dx dy)))) := by
  refine ev_n (fr' := (3, [some (vr 0), some (vi (p : Int)), some (vi (s : Int)), some (vi (t : Int)), some (vi dx), some (vi dy), some (vi 0)], [])) (S' := MS I J cc ss) 2 rfl ?_
  exact lp_putSh X I J cc ss I p s t dx dy hg8 hg6 hp hs ht hrg hdx hdy 0 (by omega) (fun _ _ => rfl) (by rw [wrS_0]; exact hP)
theorem sp_goes (X : AX) (I J : Nat → Nat → Int) (cc ss : Nat) {g : F1} (p : Nat) (s : Nat) (w : Int) (dx : Int) (dy : Int) (hg : J 136 = g) (hwp : WP g) (hp : (p : Int) < g 11) (hs : (s : Int) < g (37 * p + 12)) : Ev X k_X9_goes (0, [some (vr 135), some (vi (p : Int)), some (vi (s : Int)), some (vi w), some (vi dx), some (vi dy), none], []) (MS I J cc ss) (fun o T => o = .inl (some (vi (goF (g (37 * p + 6 * s + 13)) w dx dy))) ∧ T = MS I J cc ss) := by
  refine ev_n (fr' := (4, [some (vr 135), some (vi (p : Int)), some (vi (s : Int)), some (vi w), some (vi dx), some (vi dy), none], [vi 0, vi (s : Int), vi (p : Int), vr 135])) (S' := MS I J cc ss) 4 rfl ?_
  refine ev_cv rfl rfl rfl ⟨Nat.le_of_ble_eq_true rfl, Nat.le_of_ble_eq_true rfl⟩ (sp_ofShape_r X _ _ _ _ p s 0 hg hwp (by omega) (by omega) (by omega)) ?_
  show Ev X k_X9_goes (7, [some (vr 135), some (vi (p : Int)), some (vi (s : Int)), some (vi w), some (vi dx), some (vi dy), none], [vi (g (37 * p + 6 * s + 13))]) (MS I J cc ss) _
  refine ev_n (fr' := (8, [some (vr 135), some (vi (p : Int)), some (vi (s : Int)), some (vi w), some (vi dx), some (vi dy), none], [vi 2, vi (g (37 * p + 6 * s + 13))])) (S' := MS I J cc ss) 1 rfl ?_
  refine ev_ic (c := .ne) (off := 7) rfl (by decide) (fun (g1 : (g (37 * p + 6 * s + 13)) ≠ 2) => ?_) (fun (g1 : ¬ ((g (37 * p + 6 * s + 13)) ≠ 2)) => ?_)
  · show Ev X k_X9_goes (15, [some (vr 135), some (vi (p : Int)), some (vi (s : Int)), some (vi w), some (vi dx), some (vi dy), none], []) (MS I J cc ss) _
    refine ev_n (fr' := (20, [some (vr 135), some (vi (p : Int)), some (vi (s : Int)), some (vi w), some (vi dx), some (vi dy), some (vi 0)], [vi 1, vi w])) (S' := MS I J cc ss) 4 rfl ?_
    refine ev_ic (c := .eq) (off := 13) rfl (by decide) (fun (g2 : w = 1) => ?_) (fun (g2 : ¬ (w = 1)) => ?_)
    · show Ev X k_X9_goes (33, [some (vr 135), some (vi (p : Int)), some (vi (s : Int)), some (vi w), some (vi dx), some (vi dy), some (vi 0)], []) (MS I J cc ss) _
      refine ev_n (fr' := (59, [some (vr 135), some (vi (p : Int)), some (vi (s : Int)), some (vi w), some (vi dx), some (vi dy), some (vi 0)], [vi dx])) (S' := MS I J cc ss) 2 rfl ?_
      refine ev_r rfl rfl rfl ?_
      refine ⟨congrArg (fun z => Sum.inl (some (vi z))) ?_, rfl⟩
      unfold goF
      first | (exfalso; omega) | (rw [if_pos (by omega)]; done) | (rw [if_pos (by omega)]) | (rw [if_neg (by omega), if_pos (by omega)]) | (rw [if_neg (by omega), if_neg (by omega)])
    · show Ev X k_X9_goes (23, [some (vr 135), some (vi (p : Int)), some (vi (s : Int)), some (vi w), some (vi dx), some (vi dy), some (vi 0)], []) (MS I J cc ss) _
      refine ev_n (fr' := (25, [some (vr 135), some (vi (p : Int)), some (vi (s : Int)), some (vi w), some (vi dx), some (vi dy), some (vi 0)], [vi 3, vi w])) (S' := MS I J cc ss) 2 rfl ?_
      refine ev_ic (c := .ne) (off := 13) rfl (by decide) (fun (g3 : w ≠ 3) => ?_) (fun (g3 : ¬ (w ≠ 3)) => ?_)
      · show Ev X k_X9_goes (38, [some (vr 135), some (vi (p : Int)), some (vi (s : Int)), some (vi w), some (vi dx), some (vi dy), some (vi 0)], []) (MS I J cc ss) _
        refine ev_n (fr' := (40, [some (vr 135), some (vi (p : Int)), some (vi (s : Int)), some (vi w), some (vi dx), some (vi dy), some (vi 0)], [vi 2, vi w])) (S' := MS I J cc ss) 2 rfl ?_
        refine ev_ic (c := .eq) (off := 13) rfl (by decide) (fun (g4 : w = 2) => ?_) (fun (g4 : ¬ (w = 2)) => ?_)
        · show Ev X k_X9_goes (53, [some (vr 135), some (vi (p : Int)), some (vi (s : Int)), some (vi w), some (vi dx), some (vi dy), some (vi 0)], []) (MS I J cc ss) _
          refine ev_n (fr' := (59, [some (vr 135), some (vi (p : Int)), some (vi (s : Int)), some (vi w), some (vi dx), some (vi dy), some (vi 0)], [vi dy])) (S' := MS I J cc ss) 2 rfl ?_
          refine ev_r rfl rfl rfl ?_
          refine ⟨congrArg (fun z => Sum.inl (some (vi z))) ?_, rfl⟩
          unfold goF
          first | (exfalso; omega) | (rw [if_pos (by omega)]; done) | (rw [if_pos (by omega)]) | (rw [if_neg (by omega), if_pos (by omega)]) | (rw [if_neg (by omega), if_neg (by omega)])
        · show Ev X k_X9_goes (43, [some (vr 135), some (vi (p : Int)), some (vi (s : Int)), some (vi w), some (vi dx), some (vi dy), some (vi 0)], []) (MS I J cc ss) _
          refine ev_n (fr' := (45, [some (vr 135), some (vi (p : Int)), some (vi (s : Int)), some (vi w), some (vi dx), some (vi dy), some (vi 0)], [vi 4, vi w])) (S' := MS I J cc ss) 2 rfl ?_
          refine ev_ic (c := .ne) (off := 13) rfl (by decide) (fun (g5 : w ≠ 4) => ?_) (fun (g5 : ¬ (w ≠ 4)) => ?_)
          · show Ev X k_X9_goes (58, [some (vr 135), some (vi (p : Int)), some (vi (s : Int)), some (vi w), some (vi dx), some (vi dy), some (vi 0)], []) (MS I J cc ss) _
            refine ev_n (fr' := (59, [some (vr 135), some (vi (p : Int)), some (vi (s : Int)), some (vi w), some (vi dx), some (vi dy), some (vi 0)], [vi 0])) (S' := MS I J cc ss) 1 rfl ?_
            refine ev_r rfl rfl rfl ?_
            refine ⟨congrArg (fun z => Sum.inl (some (vi z))) ?_, rfl⟩
            unfold goF
            first | (exfalso; omega) | (rw [if_pos (by omega)]; done) | (rw [if_pos (by omega)]) | (rw [if_neg (by omega), if_pos (by omega)]) | (rw [if_neg (by omega), if_neg (by omega)])
          · show Ev X k_X9_goes (48, [some (vr 135), some (vi (p : Int)), some (vi (s : Int)), some (vi w), some (vi dx), some (vi dy), some (vi 0)], []) (MS I J cc ss) _
            refine ev_n (fr' := (59, [some (vr 135), some (vi (p : Int)), some (vi (s : Int)), some (vi w), some (vi dx), some (vi dy), some (vi 0)], [vi 0])) (S' := MS I J cc ss) 3 rfl ?_
            refine ev_r rfl rfl rfl ?_
            refine ⟨congrArg (fun z => Sum.inl (some (vi z))) ?_, rfl⟩
            unfold goF
            first | (exfalso; omega) | (rw [if_pos (by omega)]; done) | (rw [if_pos (by omega)]) | (rw [if_neg (by omega), if_pos (by omega)]) | (rw [if_neg (by omega), if_neg (by omega)])
      · show Ev X k_X9_goes (28, [some (vr 135), some (vi (p : Int)), some (vi (s : Int)), some (vi w), some (vi dx), some (vi dy), some (vi 0)], []) (MS I J cc ss) _
        refine ev_n (fr' := (40, [some (vr 135), some (vi (p : Int)), some (vi (s : Int)), some (vi w), some (vi dx), some (vi dy), some (vi 0)], [vi 2, vi w])) (S' := MS I J cc ss) 4 rfl ?_
        refine ev_ic (c := .eq) (off := 13) rfl (by decide) (fun (g6 : w = 2) => ?_) (fun (g6 : ¬ (w = 2)) => ?_)
        · show Ev X k_X9_goes (53, [some (vr 135), some (vi (p : Int)), some (vi (s : Int)), some (vi w), some (vi dx), some (vi dy), some (vi 0)], []) (MS I J cc ss) _
          refine ev_n (fr' := (59, [some (vr 135), some (vi (p : Int)), some (vi (s : Int)), some (vi w), some (vi dx), some (vi dy), some (vi 0)], [vi dy])) (S' := MS I J cc ss) 2 rfl ?_
          refine ev_r rfl rfl rfl ?_
          refine ⟨congrArg (fun z => Sum.inl (some (vi z))) ?_, rfl⟩
          unfold goF
          first | (exfalso; omega) | (rw [if_pos (by omega)]; done) | (rw [if_pos (by omega)]) | (rw [if_neg (by omega), if_pos (by omega)]) | (rw [if_neg (by omega), if_neg (by omega)])
        · show Ev X k_X9_goes (43, [some (vr 135), some (vi (p : Int)), some (vi (s : Int)), some (vi w), some (vi dx), some (vi dy), some (vi 0)], []) (MS I J cc ss) _
          refine ev_n (fr' := (45, [some (vr 135), some (vi (p : Int)), some (vi (s : Int)), some (vi w), some (vi dx), some (vi dy), some (vi 0)], [vi 4, vi w])) (S' := MS I J cc ss) 2 rfl ?_
          refine ev_ic (c := .ne) (off := 13) rfl (by decide) (fun (g7 : w ≠ 4) => ?_) (fun (g7 : ¬ (w ≠ 4)) => ?_)
          · show Ev X k_X9_goes (58, [some (vr 135), some (vi (p : Int)), some (vi (s : Int)), some (vi w), some (vi dx), some (vi dy), some (vi 0)], []) (MS I J cc ss) _
            refine ev_n (fr' := (59, [some (vr 135), some (vi (p : Int)), some (vi (s : Int)), some (vi w), some (vi dx), some (vi dy), some (vi 0)], [vi 0])) (S' := MS I J cc ss) 1 rfl ?_
            refine ev_r rfl rfl rfl ?_
            refine ⟨congrArg (fun z => Sum.inl (some (vi z))) ?_, rfl⟩
            unfold goF
            first | (exfalso; omega) | (rw [if_pos (by omega)]; done) | (rw [if_pos (by omega)]) | (rw [if_neg (by omega), if_pos (by omega)]) | (rw [if_neg (by omega), if_neg (by omega)])
          · show Ev X k_X9_goes (48, [some (vr 135), some (vi (p : Int)), some (vi (s : Int)), some (vi w), some (vi dx), some (vi dy), some (vi 0)], []) (MS I J cc ss) _
            refine ev_n (fr' := (59, [some (vr 135), some (vi (p : Int)), some (vi (s : Int)), some (vi w), some (vi dx), some (vi dy), some (vi 0)], [vi 0])) (S' := MS I J cc ss) 3 rfl ?_
            refine ev_r rfl rfl rfl ?_
            refine ⟨congrArg (fun z => Sum.inl (some (vi z))) ?_, rfl⟩
            unfold goF
            first | (exfalso; omega) | (rw [if_pos (by omega)]; done) | (rw [if_pos (by omega)]) | (rw [if_neg (by omega), if_pos (by omega)]) | (rw [if_neg (by omega), if_neg (by omega)])
  · show Ev X k_X9_goes (11, [some (vr 135), some (vi (p : Int)), some (vi (s : Int)), some (vi w), some (vi dx), some (vi dy), none], []) (MS I J cc ss) _
    refine ev_n (fr' := (20, [some (vr 135), some (vi (p : Int)), some (vi (s : Int)), some (vi w), some (vi dx), some (vi dy), some (vi 1)], [vi 1, vi w])) (S' := MS I J cc ss) 5 rfl ?_
    refine ev_ic (c := .eq) (off := 13) rfl (by decide) (fun (g8 : w = 1) => ?_) (fun (g8 : ¬ (w = 1)) => ?_)
    · show Ev X k_X9_goes (33, [some (vr 135), some (vi (p : Int)), some (vi (s : Int)), some (vi w), some (vi dx), some (vi dy), some (vi 1)], []) (MS I J cc ss) _
      refine ev_n (fr' := (59, [some (vr 135), some (vi (p : Int)), some (vi (s : Int)), some (vi w), some (vi dx), some (vi dy), some (vi 1)], [vi dx])) (S' := MS I J cc ss) 2 rfl ?_
      refine ev_r rfl rfl rfl ?_
      refine ⟨congrArg (fun z => Sum.inl (some (vi z))) ?_, rfl⟩
      unfold goF
      first | (exfalso; omega) | (rw [if_pos (by omega)]; done) | (rw [if_pos (by omega)]) | (rw [if_neg (by omega), if_pos (by omega)]) | (rw [if_neg (by omega), if_neg (by omega)])
    · show Ev X k_X9_goes (23, [some (vr 135), some (vi (p : Int)), some (vi (s : Int)), some (vi w), some (vi dx), some (vi dy), some (vi 1)], []) (MS I J cc ss) _
      refine ev_n (fr' := (25, [some (vr 135), some (vi (p : Int)), some (vi (s : Int)), some (vi w), some (vi dx), some (vi dy), some (vi 1)], [vi 3, vi w])) (S' := MS I J cc ss) 2 rfl ?_
      refine ev_ic (c := .ne) (off := 13) rfl (by decide) (fun (g9 : w ≠ 3) => ?_) (fun (g9 : ¬ (w ≠ 3)) => ?_)
      · show Ev X k_X9_goes (38, [some (vr 135), some (vi (p : Int)), some (vi (s : Int)), some (vi w), some (vi dx), some (vi dy), some (vi 1)], []) (MS I J cc ss) _
        refine ev_n (fr' := (40, [some (vr 135), some (vi (p : Int)), some (vi (s : Int)), some (vi w), some (vi dx), some (vi dy), some (vi 1)], [vi 2, vi w])) (S' := MS I J cc ss) 2 rfl ?_
        refine ev_ic (c := .eq) (off := 13) rfl (by decide) (fun (g10 : w = 2) => ?_) (fun (g10 : ¬ (w = 2)) => ?_)
        · show Ev X k_X9_goes (53, [some (vr 135), some (vi (p : Int)), some (vi (s : Int)), some (vi w), some (vi dx), some (vi dy), some (vi 1)], []) (MS I J cc ss) _
          refine ev_n (fr' := (59, [some (vr 135), some (vi (p : Int)), some (vi (s : Int)), some (vi w), some (vi dx), some (vi dy), some (vi 1)], [vi dy])) (S' := MS I J cc ss) 2 rfl ?_
          refine ev_r rfl rfl rfl ?_
          refine ⟨congrArg (fun z => Sum.inl (some (vi z))) ?_, rfl⟩
          unfold goF
          first | (exfalso; omega) | (rw [if_pos (by omega)]; done) | (rw [if_pos (by omega)]) | (rw [if_neg (by omega), if_pos (by omega)]) | (rw [if_neg (by omega), if_neg (by omega)])
        · show Ev X k_X9_goes (43, [some (vr 135), some (vi (p : Int)), some (vi (s : Int)), some (vi w), some (vi dx), some (vi dy), some (vi 1)], []) (MS I J cc ss) _
          refine ev_n (fr' := (45, [some (vr 135), some (vi (p : Int)), some (vi (s : Int)), some (vi w), some (vi dx), some (vi dy), some (vi 1)], [vi 4, vi w])) (S' := MS I J cc ss) 2 rfl ?_
          refine ev_ic (c := .ne) (off := 13) rfl (by decide) (fun (g11 : w ≠ 4) => ?_) (fun (g11 : ¬ (w ≠ 4)) => ?_)
          · show Ev X k_X9_goes (58, [some (vr 135), some (vi (p : Int)), some (vi (s : Int)), some (vi w), some (vi dx), some (vi dy), some (vi 1)], []) (MS I J cc ss) _
            refine ev_n (fr' := (59, [some (vr 135), some (vi (p : Int)), some (vi (s : Int)), some (vi w), some (vi dx), some (vi dy), some (vi 1)], [vi 0])) (S' := MS I J cc ss) 1 rfl ?_
            refine ev_r rfl rfl rfl ?_
            refine ⟨congrArg (fun z => Sum.inl (some (vi z))) ?_, rfl⟩
            unfold goF
            first | (exfalso; omega) | (rw [if_pos (by omega)]; done) | (rw [if_pos (by omega)]) | (rw [if_neg (by omega), if_pos (by omega)]) | (rw [if_neg (by omega), if_neg (by omega)])
          · show Ev X k_X9_goes (48, [some (vr 135), some (vi (p : Int)), some (vi (s : Int)), some (vi w), some (vi dx), some (vi dy), some (vi 1)], []) (MS I J cc ss) _
            refine ev_n (fr' := (59, [some (vr 135), some (vi (p : Int)), some (vi (s : Int)), some (vi w), some (vi dx), some (vi dy), some (vi 1)], [vi dy])) (S' := MS I J cc ss) 4 rfl ?_
            refine ev_r rfl rfl rfl ?_
            refine ⟨congrArg (fun z => Sum.inl (some (vi z))) ?_, rfl⟩
            unfold goF
            first | (exfalso; omega) | (rw [if_pos (by omega)]; done) | (rw [if_pos (by omega)]) | (rw [if_neg (by omega), if_pos (by omega)]) | (rw [if_neg (by omega), if_neg (by omega)])
      · show Ev X k_X9_goes (28, [some (vr 135), some (vi (p : Int)), some (vi (s : Int)), some (vi w), some (vi dx), some (vi dy), some (vi 1)], []) (MS I J cc ss) _
        refine ev_n (fr' := (59, [some (vr 135), some (vi (p : Int)), some (vi (s : Int)), some (vi w), some (vi dx), some (vi dy), some (vi 1)], [vi dx])) (S' := MS I J cc ss) 4 rfl ?_
        refine ev_r rfl rfl rfl ?_
        refine ⟨congrArg (fun z => Sum.inl (some (vi z))) ?_, rfl⟩
        unfold goF
        first | (exfalso; omega) | (rw [if_pos (by omega)]; done) | (rw [if_pos (by omega)]) | (rw [if_neg (by omega), if_pos (by omega)]) | (rw [if_neg (by omega), if_neg (by omega)])
theorem sp_isValue (X : AX) (I J : Nat → Nat → Int) (cc ss : Nat) {g : F1} (p : Nat) (s : Nat) (w : Int) (v : Int) (hg : J 136 = g) (hwp : WP g) (hp : (p : Int) < g 11) (hs : (s : Int) < g (37 * p + 12)) : Ev X k_X9_isValue (0, [some (vr 135), some (vi (p : Int)), some (vi (s : Int)), some (vi w), some (vl v), none, none], []) (MS I J cc ss) (fun o T => o = .inl (some (vi (if (1 ≤ w ∧ w ≤ 5) ∧ fitP (g (37 * p + 6 * s + 13)) w v then 1 else 0))) ∧ T = MS I J cc ss) := by
  refine ev_n (fr' := (4, [some (vr 135), some (vi (p : Int)), some (vi (s : Int)), some (vi w), some (vl v), none, none], [vi 0, vi (s : Int), vi (p : Int), vr 135])) (S' := MS I J cc ss) 4 rfl ?_
  refine ev_cv rfl rfl rfl ⟨Nat.le_of_ble_eq_true rfl, Nat.le_of_ble_eq_true rfl⟩ (sp_ofShape_r X _ _ _ _ p s 0 hg hwp (by omega) (by omega) (by omega)) ?_
  show Ev X k_X9_isValue (7, [some (vr 135), some (vi (p : Int)), some (vi (s : Int)), some (vi w), some (vl v), none, none], [vi (g (37 * p + 6 * s + 13))]) (MS I J cc ss) _
  refine ev_n (fr' := (15, [some (vr 135), some (vi (p : Int)), some (vi (s : Int)), some (vi w), some (vl v), none, some (vi (g (37 * p + 6 * s + 13)))], [vl 5, vl 1, vl w])) (S' := MS I J cc ss) 5 rfl ?_
  refine ev_cv rfl rfl rfl ⟨Nat.le_of_ble_eq_true rfl, Nat.le_of_ble_eq_true rfl⟩ (sp_isIn X _ w 1 5 ) ?_
  show Ev X k_X9_isValue (18, [some (vr 135), some (vi (p : Int)), some (vi (s : Int)), some (vi w), some (vl v), none, some (vi (g (37 * p + 6 * s + 13)))], [vi (if 1 ≤ w ∧ w ≤ 5 then 1 else 0)]) (MS I J cc ss) _
  refine ev_beq _ rfl (by decide) (fun (g1 : ¬ (1 ≤ w ∧ w ≤ 5)) => ?_) (fun (g1 : 1 ≤ w ∧ w ≤ 5) => ?_)
  · show Ev X k_X9_isValue (47, [some (vr 135), some (vi (p : Int)), some (vi (s : Int)), some (vi w), some (vl v), none, some (vi (g (37 * p + 6 * s + 13)))], []) (MS I J cc ss) _
    refine ev_n (fr' := (48, [some (vr 135), some (vi (p : Int)), some (vi (s : Int)), some (vi w), some (vl v), none, some (vi (g (37 * p + 6 * s + 13)))], [vi 0])) (S' := MS I J cc ss) 1 rfl ?_
    refine ev_r rfl rfl rfl ?_
    exact ⟨congrArg (fun z => Sum.inl (some (vi z))) (if_neg (fun q => g1 q.1)).symm, rfl⟩
  · show Ev X k_X9_isValue (21, [some (vr 135), some (vi (p : Int)), some (vi (s : Int)), some (vi w), some (vl v), none, some (vi (g (37 * p + 6 * s + 13)))], []) (MS I J cc ss) _
    refine ev_n (fr' := (26, [some (vr 135), some (vi (p : Int)), some (vi (s : Int)), some (vi w), some (vl v), none, some (vi (g (37 * p + 6 * s + 13)))], [vi w, vi (g (37 * p + 6 * s + 13)), vl v])) (S' := MS I J cc ss) 3 rfl ?_
    refine ev_cv rfl rfl rfl ⟨Nat.le_of_ble_eq_true rfl, Nat.le_of_ble_eq_true rfl⟩ (sp_low X _ (g (37 * p + 6 * s + 13)) w (by omega)) ?_
    show Ev X k_X9_isValue (29, [some (vr 135), some (vi (p : Int)), some (vi (s : Int)), some (vi w), some (vl v), none, some (vi (g (37 * p + 6 * s + 13)))], [vi (lowF (g (37 * p + 6 * s + 13)) w), vl v]) (MS I J cc ss) _
    refine ev_n (fr' := (33, [some (vr 135), some (vi (p : Int)), some (vi (s : Int)), some (vi w), some (vl v), none, some (vi (g (37 * p + 6 * s + 13)))], [vi w, vi (g (37 * p + 6 * s + 13)), vl (lowF (g (37 * p + 6 * s + 13)) w), vl v])) (S' := MS I J cc ss) 3 rfl ?_
    refine ev_cv rfl rfl rfl ⟨Nat.le_of_ble_eq_true rfl, Nat.le_of_ble_eq_true rfl⟩ (sp_high X _ (g (37 * p + 6 * s + 13)) w (by omega)) ?_
    show Ev X k_X9_isValue (36, [some (vr 135), some (vi (p : Int)), some (vi (s : Int)), some (vi w), some (vl v), none, some (vi (g (37 * p + 6 * s + 13)))], [vi (highF (g (37 * p + 6 * s + 13)) w), vl (lowF (g (37 * p + 6 * s + 13)) w), vl v]) (MS I J cc ss) _
    refine ev_n (fr' := (37, [some (vr 135), some (vi (p : Int)), some (vi (s : Int)), some (vi w), some (vl v), none, some (vi (g (37 * p + 6 * s + 13)))], [vl (highF (g (37 * p + 6 * s + 13)) w), vl (lowF (g (37 * p + 6 * s + 13)) w), vl v])) (S' := MS I J cc ss) 1 rfl ?_
    refine ev_cv rfl rfl rfl ⟨Nat.le_of_ble_eq_true rfl, Nat.le_of_ble_eq_true rfl⟩ (sp_isIn X _ v (lowF (g (37 * p + 6 * s + 13)) w) (highF (g (37 * p + 6 * s + 13)) w) ) ?_
    show Ev X k_X9_isValue (40, [some (vr 135), some (vi (p : Int)), some (vi (s : Int)), some (vi w), some (vl v), none, some (vi (g (37 * p + 6 * s + 13)))], [vi (if (lowF (g (37 * p + 6 * s + 13)) w) ≤ v ∧ v ≤ (highF (g (37 * p + 6 * s + 13)) w) then 1 else 0)]) (MS I J cc ss) _
    refine ev_beq _ rfl (by decide) (fun (g2 : ¬ ((lowF (g (37 * p + 6 * s + 13)) w) ≤ v ∧ v ≤ (highF (g (37 * p + 6 * s + 13)) w))) => ?_) (fun (g2 : (lowF (g (37 * p + 6 * s + 13)) w) ≤ v ∧ v ≤ (highF (g (37 * p + 6 * s + 13)) w)) => ?_)
    · show Ev X k_X9_isValue (47, [some (vr 135), some (vi (p : Int)), some (vi (s : Int)), some (vi w), some (vl v), none, some (vi (g (37 * p + 6 * s + 13)))], []) (MS I J cc ss) _
      refine ev_n (fr' := (48, [some (vr 135), some (vi (p : Int)), some (vi (s : Int)), some (vi w), some (vl v), none, some (vi (g (37 * p + 6 * s + 13)))], [vi 0])) (S' := MS I J cc ss) 1 rfl ?_
      refine ev_r rfl rfl rfl ?_
      exact ⟨congrArg (fun z => Sum.inl (some (vi z))) (if_neg (fun q => g2 q.2)).symm, rfl⟩
    · show Ev X k_X9_isValue (43, [some (vr 135), some (vi (p : Int)), some (vi (s : Int)), some (vi w), some (vl v), none, some (vi (g (37 * p + 6 * s + 13)))], []) (MS I J cc ss) _
      refine ev_n (fr' := (48, [some (vr 135), some (vi (p : Int)), some (vi (s : Int)), some (vi w), some (vl v), none, some (vi (g (37 * p + 6 * s + 13)))], [vi 1])) (S' := MS I J cc ss) 2 rfl ?_
      refine ev_r rfl rfl rfl ?_
      exact ⟨congrArg (fun z => Sum.inl (some (vi z))) (if_pos ⟨g1, g2⟩).symm, rfl⟩
theorem sp_canMove (X : AX) (I J : Nat → Nat → Int) (cc ss : Nat) {g : F1} (p : Nat) (s : Nat) (dx : Int) (dy : Int) (hg : J 136 = g) (hwp : WP g) (hp : (p : Int) < g 11) (hs : (s : Int) < g (37 * p + 12)) : Ev X k_X9_canMove (0, [some (vr 135), some (vi (p : Int)), some (vi (s : Int)), some (vi dx), some (vi dy), none], []) (MS I J cc ss) (fun o T => o = .inl (some (vi (if (-48 ≤ dx ∧ dx ≤ 48) ∧ (-48 ≤ dy ∧ dy ≤ 48) ∧ canP g p s dx dy then 1 else 0))) ∧ T = MS I J cc ss) := by
  have n0 : 0 ≤ g (37 * p + 6 * s + 13) ∧ g (37 * p + 6 * s + 13) ≤ 48 := wp_num hwp hp hs (show 0 < 6 by decide)
  have n1 : 0 ≤ g (37 * p + 6 * s + 14) ∧ g (37 * p + 6 * s + 14) ≤ 48 := wp_num hwp hp hs (show 1 < 6 by decide)
  have n2 : 0 ≤ g (37 * p + 6 * s + 15) ∧ g (37 * p + 6 * s + 15) ≤ 48 := wp_num hwp hp hs (show 2 < 6 by decide)
  have n3 : 0 ≤ g (37 * p + 6 * s + 16) ∧ g (37 * p + 6 * s + 16) ≤ 48 := wp_num hwp hp hs (show 3 < 6 by decide)
  have n4 : 0 ≤ g (37 * p + 6 * s + 17) ∧ g (37 * p + 6 * s + 17) ≤ 48 := wp_num hwp hp hs (show 4 < 6 by decide)
  have n5 : 0 ≤ g (37 * p + 6 * s + 18) ∧ g (37 * p + 6 * s + 18) ≤ 48 := wp_num hwp hp hs (show 5 < 6 by decide)
  refine ev_n (fr' := (1, [some (vr 135), some (vi (p : Int)), some (vi (s : Int)), some (vi dx), some (vi dy), none], [vi dx])) (S' := MS I J cc ss) 1 rfl ?_
  refine ev_cv rfl rfl rfl ⟨Nat.le_of_ble_eq_true rfl, Nat.le_of_ble_eq_true rfl⟩ (sp_isShift X _ dx ) ?_
  show Ev X k_X9_canMove (4, [some (vr 135), some (vi (p : Int)), some (vi (s : Int)), some (vi dx), some (vi dy), none], [vi (if -48 ≤ dx ∧ dx ≤ 48 then 1 else 0)]) (MS I J cc ss) _
  refine ev_beq _ rfl (by decide) (fun (g1 : ¬ (-48 ≤ dx ∧ dx ≤ 48)) => ?_) (fun (g1 : -48 ≤ dx ∧ dx ≤ 48) => ?_)
  · show Ev X k_X9_canMove (15, [some (vr 135), some (vi (p : Int)), some (vi (s : Int)), some (vi dx), some (vi dy), none], []) (MS I J cc ss) _
    refine ev_n (fr' := (16, [some (vr 135), some (vi (p : Int)), some (vi (s : Int)), some (vi dx), some (vi dy), none], [vi 0])) (S' := MS I J cc ss) 1 rfl ?_
    refine ev_r rfl rfl rfl ?_
    exact ⟨congrArg (fun z => Sum.inl (some (vi z))) (if_neg (by omega)).symm, rfl⟩
  · show Ev X k_X9_canMove (7, [some (vr 135), some (vi (p : Int)), some (vi (s : Int)), some (vi dx), some (vi dy), none], []) (MS I J cc ss) _
    refine ev_n (fr' := (9, [some (vr 135), some (vi (p : Int)), some (vi (s : Int)), some (vi dx), some (vi dy), none], [vi dy])) (S' := MS I J cc ss) 1 rfl ?_
    refine ev_cv rfl rfl rfl ⟨Nat.le_of_ble_eq_true rfl, Nat.le_of_ble_eq_true rfl⟩ (sp_isShift X _ dy ) ?_
    show Ev X k_X9_canMove (12, [some (vr 135), some (vi (p : Int)), some (vi (s : Int)), some (vi dx), some (vi dy), none], [vi (if -48 ≤ dy ∧ dy ≤ 48 then 1 else 0)]) (MS I J cc ss) _
    refine ev_bne _ rfl (by decide) (fun (g2 : -48 ≤ dy ∧ dy ≤ 48) => ?_) (fun (g2 : ¬ (-48 ≤ dy ∧ dy ≤ 48)) => ?_)
    · show Ev X k_X9_canMove (17, [some (vr 135), some (vi (p : Int)), some (vi (s : Int)), some (vi dx), some (vi dy), none], []) (MS I J cc ss) _
      refine ev_n (fr' := (35, [some (vr 135), some (vi (p : Int)), some (vi (s : Int)), some (vi dx), some (vi dy), some (vi 1)], [vi (s : Int), vi (p : Int), vr 135, vi 1, vi (s : Int), vi (p : Int), vr 135])) (S' := MS I J cc ss) 12 rfl ?_
      refine ev_n (fr' := (37, [some (vr 135), some (vi (p : Int)), some (vi (s : Int)), some (vi dx), some (vi dy), some (vi 1)], [vi 1, vi (s : Int), vi (p : Int), vr 135, vi 1, vi (s : Int), vi (p : Int), vr 135])) (S' := MS I J cc ss) 1 rfl ?_
      refine ev_cv rfl rfl rfl ⟨Nat.le_of_ble_eq_true rfl, Nat.le_of_ble_eq_true rfl⟩ (sp_ofShape_r X _ _ _ _ p s 1 hg hwp (by omega) (by omega) (by omega)) ?_
      show Ev X k_X9_canMove (40, [some (vr 135), some (vi (p : Int)), some (vi (s : Int)), some (vi dx), some (vi dy), some (vi 1)], [vi (g (37 * p + 6 * s + 14)), vi 1, vi (s : Int), vi (p : Int), vr 135]) (MS I J cc ss) _
      refine ev_n (fr' := (48, [some (vr 135), some (vi (p : Int)), some (vi (s : Int)), some (vi dx), some (vi dy), some (vi 1)], [vi dy, vi dx, vi 1, vi (s : Int), vi (p : Int), vr 135, vi (g (37 * p + 6 * s + 14)), vi 1, vi (s : Int), vi (p : Int), vr 135])) (S' := MS I J cc ss) 6 rfl ?_
      refine ev_cv rfl rfl rfl ⟨Nat.le_of_ble_eq_true rfl, Nat.le_of_ble_eq_true rfl⟩ (sp_goes X _ _ _ _ p s 1 dx dy hg hwp (by omega) (by omega)) ?_
      show Ev X k_X9_canMove (51, [some (vr 135), some (vi (p : Int)), some (vi (s : Int)), some (vi dx), some (vi dy), some (vi 1)], [vi (goF (g (37 * p + 6 * s + 13)) 1 dx dy), vi (g (37 * p + 6 * s + 14)), vi 1, vi (s : Int), vi (p : Int), vr 135]) (MS I J cc ss) _
      have := goF_rng (kd := g (37 * p + 6 * s + 13)) (w := 1) (dx := dx) (dy := dy) (by omega) (by omega)
      refine ev_add (z := (g (37 * p + 6 * s + 14)) + (goF (g (37 * p + 6 * s + 13)) 1 dx dy)) rfl (by omega) (by omega) (by omega) ?_
      show Ev X k_X9_canMove (52, [some (vr 135), some (vi (p : Int)), some (vi (s : Int)), some (vi dx), some (vi dy), some (vi 1)], [vi ((g (37 * p + 6 * s + 14)) + (goF (g (37 * p + 6 * s + 13)) 1 dx dy)), vi 1, vi (s : Int), vi (p : Int), vr 135]) (MS I J cc ss) _
      refine ev_n (fr' := (53, [some (vr 135), some (vi (p : Int)), some (vi (s : Int)), some (vi dx), some (vi dy), some (vi 1)], [vl ((g (37 * p + 6 * s + 14)) + (goF (g (37 * p + 6 * s + 13)) 1 dx dy)), vi 1, vi (s : Int), vi (p : Int), vr 135])) (S' := MS I J cc ss) 1 rfl ?_
      refine ev_cv rfl rfl rfl ⟨Nat.le_of_ble_eq_true rfl, Nat.le_of_ble_eq_true rfl⟩ (sp_isValue X _ _ _ _ p s 1 ((g (37 * p + 6 * s + 14)) + (goF (g (37 * p + 6 * s + 13)) 1 dx dy)) hg hwp (by omega) (by omega)) ?_
      show Ev X k_X9_canMove (56, [some (vr 135), some (vi (p : Int)), some (vi (s : Int)), some (vi dx), some (vi dy), some (vi 1)], [vi (if (1 ≤ 1 ∧ 1 ≤ 5) ∧ fitP (g (37 * p + 6 * s + 13)) 1 ((g (37 * p + 6 * s + 14)) + (goF (g (37 * p + 6 * s + 13)) 1 dx dy)) then 1 else 0)]) (MS I J cc ss) _
      refine ev_bne _ rfl (by decide) (fun (g3 : (1 ≤ 1 ∧ 1 ≤ 5) ∧ fitP (g (37 * p + 6 * s + 13)) 1 ((g (37 * p + 6 * s + 14)) + (goF (g (37 * p + 6 * s + 13)) 1 dx dy))) => ?_) (fun (g3 : ¬ ((1 ≤ 1 ∧ 1 ≤ 5) ∧ fitP (g (37 * p + 6 * s + 13)) 1 ((g (37 * p + 6 * s + 14)) + (goF (g (37 * p + 6 * s + 13)) 1 dx dy)))) => ?_)
      · show Ev X k_X9_canMove (61, [some (vr 135), some (vi (p : Int)), some (vi (s : Int)), some (vi dx), some (vi dy), some (vi 1)], []) (MS I J cc ss) _
        refine ev_n (fr' := (35, [some (vr 135), some (vi (p : Int)), some (vi (s : Int)), some (vi dx), some (vi dy), some (vi 2)], [vi (s : Int), vi (p : Int), vr 135, vi 2, vi (s : Int), vi (p : Int), vr 135])) (S' := MS I J cc ss) 12 rfl ?_
        refine ev_n (fr' := (37, [some (vr 135), some (vi (p : Int)), some (vi (s : Int)), some (vi dx), some (vi dy), some (vi 2)], [vi 2, vi (s : Int), vi (p : Int), vr 135, vi 2, vi (s : Int), vi (p : Int), vr 135])) (S' := MS I J cc ss) 1 rfl ?_
        refine ev_cv rfl rfl rfl ⟨Nat.le_of_ble_eq_true rfl, Nat.le_of_ble_eq_true rfl⟩ (sp_ofShape_r X _ _ _ _ p s 2 hg hwp (by omega) (by omega) (by omega)) ?_
        show Ev X k_X9_canMove (40, [some (vr 135), some (vi (p : Int)), some (vi (s : Int)), some (vi dx), some (vi dy), some (vi 2)], [vi (g (37 * p + 6 * s + 15)), vi 2, vi (s : Int), vi (p : Int), vr 135]) (MS I J cc ss) _
        refine ev_n (fr' := (48, [some (vr 135), some (vi (p : Int)), some (vi (s : Int)), some (vi dx), some (vi dy), some (vi 2)], [vi dy, vi dx, vi 2, vi (s : Int), vi (p : Int), vr 135, vi (g (37 * p + 6 * s + 15)), vi 2, vi (s : Int), vi (p : Int), vr 135])) (S' := MS I J cc ss) 6 rfl ?_
        refine ev_cv rfl rfl rfl ⟨Nat.le_of_ble_eq_true rfl, Nat.le_of_ble_eq_true rfl⟩ (sp_goes X _ _ _ _ p s 2 dx dy hg hwp (by omega) (by omega)) ?_
        show Ev X k_X9_canMove (51, [some (vr 135), some (vi (p : Int)), some (vi (s : Int)), some (vi dx), some (vi dy), some (vi 2)], [vi (goF (g (37 * p + 6 * s + 13)) 2 dx dy), vi (g (37 * p + 6 * s + 15)), vi 2, vi (s : Int), vi (p : Int), vr 135]) (MS I J cc ss) _
        have := goF_rng (kd := g (37 * p + 6 * s + 13)) (w := 2) (dx := dx) (dy := dy) (by omega) (by omega)
        refine ev_add (z := (g (37 * p + 6 * s + 15)) + (goF (g (37 * p + 6 * s + 13)) 2 dx dy)) rfl (by omega) (by omega) (by omega) ?_
        show Ev X k_X9_canMove (52, [some (vr 135), some (vi (p : Int)), some (vi (s : Int)), some (vi dx), some (vi dy), some (vi 2)], [vi ((g (37 * p + 6 * s + 15)) + (goF (g (37 * p + 6 * s + 13)) 2 dx dy)), vi 2, vi (s : Int), vi (p : Int), vr 135]) (MS I J cc ss) _
        refine ev_n (fr' := (53, [some (vr 135), some (vi (p : Int)), some (vi (s : Int)), some (vi dx), some (vi dy), some (vi 2)], [vl ((g (37 * p + 6 * s + 15)) + (goF (g (37 * p + 6 * s + 13)) 2 dx dy)), vi 2, vi (s : Int), vi (p : Int), vr 135])) (S' := MS I J cc ss) 1 rfl ?_
        refine ev_cv rfl rfl rfl ⟨Nat.le_of_ble_eq_true rfl, Nat.le_of_ble_eq_true rfl⟩ (sp_isValue X _ _ _ _ p s 2 ((g (37 * p + 6 * s + 15)) + (goF (g (37 * p + 6 * s + 13)) 2 dx dy)) hg hwp (by omega) (by omega)) ?_
        show Ev X k_X9_canMove (56, [some (vr 135), some (vi (p : Int)), some (vi (s : Int)), some (vi dx), some (vi dy), some (vi 2)], [vi (if (1 ≤ 2 ∧ 2 ≤ 5) ∧ fitP (g (37 * p + 6 * s + 13)) 2 ((g (37 * p + 6 * s + 15)) + (goF (g (37 * p + 6 * s + 13)) 2 dx dy)) then 1 else 0)]) (MS I J cc ss) _
        refine ev_bne _ rfl (by decide) (fun (g4 : (1 ≤ 2 ∧ 2 ≤ 5) ∧ fitP (g (37 * p + 6 * s + 13)) 2 ((g (37 * p + 6 * s + 15)) + (goF (g (37 * p + 6 * s + 13)) 2 dx dy))) => ?_) (fun (g4 : ¬ ((1 ≤ 2 ∧ 2 ≤ 5) ∧ fitP (g (37 * p + 6 * s + 13)) 2 ((g (37 * p + 6 * s + 15)) + (goF (g (37 * p + 6 * s + 13)) 2 dx dy)))) => ?_)
        · show Ev X k_X9_canMove (61, [some (vr 135), some (vi (p : Int)), some (vi (s : Int)), some (vi dx), some (vi dy), some (vi 2)], []) (MS I J cc ss) _
          refine ev_n (fr' := (35, [some (vr 135), some (vi (p : Int)), some (vi (s : Int)), some (vi dx), some (vi dy), some (vi 3)], [vi (s : Int), vi (p : Int), vr 135, vi 3, vi (s : Int), vi (p : Int), vr 135])) (S' := MS I J cc ss) 12 rfl ?_
          refine ev_n (fr' := (37, [some (vr 135), some (vi (p : Int)), some (vi (s : Int)), some (vi dx), some (vi dy), some (vi 3)], [vi 3, vi (s : Int), vi (p : Int), vr 135, vi 3, vi (s : Int), vi (p : Int), vr 135])) (S' := MS I J cc ss) 1 rfl ?_
          refine ev_cv rfl rfl rfl ⟨Nat.le_of_ble_eq_true rfl, Nat.le_of_ble_eq_true rfl⟩ (sp_ofShape_r X _ _ _ _ p s 3 hg hwp (by omega) (by omega) (by omega)) ?_
          show Ev X k_X9_canMove (40, [some (vr 135), some (vi (p : Int)), some (vi (s : Int)), some (vi dx), some (vi dy), some (vi 3)], [vi (g (37 * p + 6 * s + 16)), vi 3, vi (s : Int), vi (p : Int), vr 135]) (MS I J cc ss) _
          refine ev_n (fr' := (48, [some (vr 135), some (vi (p : Int)), some (vi (s : Int)), some (vi dx), some (vi dy), some (vi 3)], [vi dy, vi dx, vi 3, vi (s : Int), vi (p : Int), vr 135, vi (g (37 * p + 6 * s + 16)), vi 3, vi (s : Int), vi (p : Int), vr 135])) (S' := MS I J cc ss) 6 rfl ?_
          refine ev_cv rfl rfl rfl ⟨Nat.le_of_ble_eq_true rfl, Nat.le_of_ble_eq_true rfl⟩ (sp_goes X _ _ _ _ p s 3 dx dy hg hwp (by omega) (by omega)) ?_
          show Ev X k_X9_canMove (51, [some (vr 135), some (vi (p : Int)), some (vi (s : Int)), some (vi dx), some (vi dy), some (vi 3)], [vi (goF (g (37 * p + 6 * s + 13)) 3 dx dy), vi (g (37 * p + 6 * s + 16)), vi 3, vi (s : Int), vi (p : Int), vr 135]) (MS I J cc ss) _
          have := goF_rng (kd := g (37 * p + 6 * s + 13)) (w := 3) (dx := dx) (dy := dy) (by omega) (by omega)
          refine ev_add (z := (g (37 * p + 6 * s + 16)) + (goF (g (37 * p + 6 * s + 13)) 3 dx dy)) rfl (by omega) (by omega) (by omega) ?_
          show Ev X k_X9_canMove (52, [some (vr 135), some (vi (p : Int)), some (vi (s : Int)), some (vi dx), some (vi dy), some (vi 3)], [vi ((g (37 * p + 6 * s + 16)) + (goF (g (37 * p + 6 * s + 13)) 3 dx dy)), vi 3, vi (s : Int), vi (p : Int), vr 135]) (MS I J cc ss) _
          refine ev_n (fr' := (53, [some (vr 135), some (vi (p : Int)), some (vi (s : Int)), some (vi dx), some (vi dy), some (vi 3)], [vl ((g (37 * p + 6 * s + 16)) + (goF (g (37 * p + 6 * s + 13)) 3 dx dy)), vi 3, vi (s : Int), vi (p : Int), vr 135])) (S' := MS I J cc ss) 1 rfl ?_
          refine ev_cv rfl rfl rfl ⟨Nat.le_of_ble_eq_true rfl, Nat.le_of_ble_eq_true rfl⟩ (sp_isValue X _ _ _ _ p s 3 ((g (37 * p + 6 * s + 16)) + (goF (g (37 * p + 6 * s + 13)) 3 dx dy)) hg hwp (by omega) (by omega)) ?_
          show Ev X k_X9_canMove (56, [some (vr 135), some (vi (p : Int)), some (vi (s : Int)), some (vi dx), some (vi dy), some (vi 3)], [vi (if (1 ≤ 3 ∧ 3 ≤ 5) ∧ fitP (g (37 * p + 6 * s + 13)) 3 ((g (37 * p + 6 * s + 16)) + (goF (g (37 * p + 6 * s + 13)) 3 dx dy)) then 1 else 0)]) (MS I J cc ss) _
          refine ev_bne _ rfl (by decide) (fun (g5 : (1 ≤ 3 ∧ 3 ≤ 5) ∧ fitP (g (37 * p + 6 * s + 13)) 3 ((g (37 * p + 6 * s + 16)) + (goF (g (37 * p + 6 * s + 13)) 3 dx dy))) => ?_) (fun (g5 : ¬ ((1 ≤ 3 ∧ 3 ≤ 5) ∧ fitP (g (37 * p + 6 * s + 13)) 3 ((g (37 * p + 6 * s + 16)) + (goF (g (37 * p + 6 * s + 13)) 3 dx dy)))) => ?_)
          · show Ev X k_X9_canMove (61, [some (vr 135), some (vi (p : Int)), some (vi (s : Int)), some (vi dx), some (vi dy), some (vi 3)], []) (MS I J cc ss) _
            refine ev_n (fr' := (35, [some (vr 135), some (vi (p : Int)), some (vi (s : Int)), some (vi dx), some (vi dy), some (vi 4)], [vi (s : Int), vi (p : Int), vr 135, vi 4, vi (s : Int), vi (p : Int), vr 135])) (S' := MS I J cc ss) 12 rfl ?_
            refine ev_n (fr' := (37, [some (vr 135), some (vi (p : Int)), some (vi (s : Int)), some (vi dx), some (vi dy), some (vi 4)], [vi 4, vi (s : Int), vi (p : Int), vr 135, vi 4, vi (s : Int), vi (p : Int), vr 135])) (S' := MS I J cc ss) 1 rfl ?_
            refine ev_cv rfl rfl rfl ⟨Nat.le_of_ble_eq_true rfl, Nat.le_of_ble_eq_true rfl⟩ (sp_ofShape_r X _ _ _ _ p s 4 hg hwp (by omega) (by omega) (by omega)) ?_
            show Ev X k_X9_canMove (40, [some (vr 135), some (vi (p : Int)), some (vi (s : Int)), some (vi dx), some (vi dy), some (vi 4)], [vi (g (37 * p + 6 * s + 17)), vi 4, vi (s : Int), vi (p : Int), vr 135]) (MS I J cc ss) _
            refine ev_n (fr' := (48, [some (vr 135), some (vi (p : Int)), some (vi (s : Int)), some (vi dx), some (vi dy), some (vi 4)], [vi dy, vi dx, vi 4, vi (s : Int), vi (p : Int), vr 135, vi (g (37 * p + 6 * s + 17)), vi 4, vi (s : Int), vi (p : Int), vr 135])) (S' := MS I J cc ss) 6 rfl ?_
            refine ev_cv rfl rfl rfl ⟨Nat.le_of_ble_eq_true rfl, Nat.le_of_ble_eq_true rfl⟩ (sp_goes X _ _ _ _ p s 4 dx dy hg hwp (by omega) (by omega)) ?_
            show Ev X k_X9_canMove (51, [some (vr 135), some (vi (p : Int)), some (vi (s : Int)), some (vi dx), some (vi dy), some (vi 4)], [vi (goF (g (37 * p + 6 * s + 13)) 4 dx dy), vi (g (37 * p + 6 * s + 17)), vi 4, vi (s : Int), vi (p : Int), vr 135]) (MS I J cc ss) _
            have := goF_rng (kd := g (37 * p + 6 * s + 13)) (w := 4) (dx := dx) (dy := dy) (by omega) (by omega)
            refine ev_add (z := (g (37 * p + 6 * s + 17)) + (goF (g (37 * p + 6 * s + 13)) 4 dx dy)) rfl (by omega) (by omega) (by omega) ?_
            show Ev X k_X9_canMove (52, [some (vr 135), some (vi (p : Int)), some (vi (s : Int)), some (vi dx), some (vi dy), some (vi 4)], [vi ((g (37 * p + 6 * s + 17)) + (goF (g (37 * p + 6 * s + 13)) 4 dx dy)), vi 4, vi (s : Int), vi (p : Int), vr 135]) (MS I J cc ss) _
            refine ev_n (fr' := (53, [some (vr 135), some (vi (p : Int)), some (vi (s : Int)), some (vi dx), some (vi dy), some (vi 4)], [vl ((g (37 * p + 6 * s + 17)) + (goF (g (37 * p + 6 * s + 13)) 4 dx dy)), vi 4, vi (s : Int), vi (p : Int), vr 135])) (S' := MS I J cc ss) 1 rfl ?_
            refine ev_cv rfl rfl rfl ⟨Nat.le_of_ble_eq_true rfl, Nat.le_of_ble_eq_true rfl⟩ (sp_isValue X _ _ _ _ p s 4 ((g (37 * p + 6 * s + 17)) + (goF (g (37 * p + 6 * s + 13)) 4 dx dy)) hg hwp (by omega) (by omega)) ?_
            show Ev X k_X9_canMove (56, [some (vr 135), some (vi (p : Int)), some (vi (s : Int)), some (vi dx), some (vi dy), some (vi 4)], [vi (if (1 ≤ 4 ∧ 4 ≤ 5) ∧ fitP (g (37 * p + 6 * s + 13)) 4 ((g (37 * p + 6 * s + 17)) + (goF (g (37 * p + 6 * s + 13)) 4 dx dy)) then 1 else 0)]) (MS I J cc ss) _
            refine ev_bne _ rfl (by decide) (fun (g6 : (1 ≤ 4 ∧ 4 ≤ 5) ∧ fitP (g (37 * p + 6 * s + 13)) 4 ((g (37 * p + 6 * s + 17)) + (goF (g (37 * p + 6 * s + 13)) 4 dx dy))) => ?_) (fun (g6 : ¬ ((1 ≤ 4 ∧ 4 ≤ 5) ∧ fitP (g (37 * p + 6 * s + 13)) 4 ((g (37 * p + 6 * s + 17)) + (goF (g (37 * p + 6 * s + 13)) 4 dx dy)))) => ?_)
            · show Ev X k_X9_canMove (61, [some (vr 135), some (vi (p : Int)), some (vi (s : Int)), some (vi dx), some (vi dy), some (vi 4)], []) (MS I J cc ss) _
              refine ev_n (fr' := (35, [some (vr 135), some (vi (p : Int)), some (vi (s : Int)), some (vi dx), some (vi dy), some (vi 5)], [vi (s : Int), vi (p : Int), vr 135, vi 5, vi (s : Int), vi (p : Int), vr 135])) (S' := MS I J cc ss) 12 rfl ?_
              refine ev_n (fr' := (37, [some (vr 135), some (vi (p : Int)), some (vi (s : Int)), some (vi dx), some (vi dy), some (vi 5)], [vi 5, vi (s : Int), vi (p : Int), vr 135, vi 5, vi (s : Int), vi (p : Int), vr 135])) (S' := MS I J cc ss) 1 rfl ?_
              refine ev_cv rfl rfl rfl ⟨Nat.le_of_ble_eq_true rfl, Nat.le_of_ble_eq_true rfl⟩ (sp_ofShape_r X _ _ _ _ p s 5 hg hwp (by omega) (by omega) (by omega)) ?_
              show Ev X k_X9_canMove (40, [some (vr 135), some (vi (p : Int)), some (vi (s : Int)), some (vi dx), some (vi dy), some (vi 5)], [vi (g (37 * p + 6 * s + 18)), vi 5, vi (s : Int), vi (p : Int), vr 135]) (MS I J cc ss) _
              refine ev_n (fr' := (48, [some (vr 135), some (vi (p : Int)), some (vi (s : Int)), some (vi dx), some (vi dy), some (vi 5)], [vi dy, vi dx, vi 5, vi (s : Int), vi (p : Int), vr 135, vi (g (37 * p + 6 * s + 18)), vi 5, vi (s : Int), vi (p : Int), vr 135])) (S' := MS I J cc ss) 6 rfl ?_
              refine ev_cv rfl rfl rfl ⟨Nat.le_of_ble_eq_true rfl, Nat.le_of_ble_eq_true rfl⟩ (sp_goes X _ _ _ _ p s 5 dx dy hg hwp (by omega) (by omega)) ?_
              show Ev X k_X9_canMove (51, [some (vr 135), some (vi (p : Int)), some (vi (s : Int)), some (vi dx), some (vi dy), some (vi 5)], [vi (goF (g (37 * p + 6 * s + 13)) 5 dx dy), vi (g (37 * p + 6 * s + 18)), vi 5, vi (s : Int), vi (p : Int), vr 135]) (MS I J cc ss) _
              have := goF_rng (kd := g (37 * p + 6 * s + 13)) (w := 5) (dx := dx) (dy := dy) (by omega) (by omega)
              refine ev_add (z := (g (37 * p + 6 * s + 18)) + (goF (g (37 * p + 6 * s + 13)) 5 dx dy)) rfl (by omega) (by omega) (by omega) ?_
              show Ev X k_X9_canMove (52, [some (vr 135), some (vi (p : Int)), some (vi (s : Int)), some (vi dx), some (vi dy), some (vi 5)], [vi ((g (37 * p + 6 * s + 18)) + (goF (g (37 * p + 6 * s + 13)) 5 dx dy)), vi 5, vi (s : Int), vi (p : Int), vr 135]) (MS I J cc ss) _
              refine ev_n (fr' := (53, [some (vr 135), some (vi (p : Int)), some (vi (s : Int)), some (vi dx), some (vi dy), some (vi 5)], [vl ((g (37 * p + 6 * s + 18)) + (goF (g (37 * p + 6 * s + 13)) 5 dx dy)), vi 5, vi (s : Int), vi (p : Int), vr 135])) (S' := MS I J cc ss) 1 rfl ?_
              refine ev_cv rfl rfl rfl ⟨Nat.le_of_ble_eq_true rfl, Nat.le_of_ble_eq_true rfl⟩ (sp_isValue X _ _ _ _ p s 5 ((g (37 * p + 6 * s + 18)) + (goF (g (37 * p + 6 * s + 13)) 5 dx dy)) hg hwp (by omega) (by omega)) ?_
              show Ev X k_X9_canMove (56, [some (vr 135), some (vi (p : Int)), some (vi (s : Int)), some (vi dx), some (vi dy), some (vi 5)], [vi (if (1 ≤ 5 ∧ 5 ≤ 5) ∧ fitP (g (37 * p + 6 * s + 13)) 5 ((g (37 * p + 6 * s + 18)) + (goF (g (37 * p + 6 * s + 13)) 5 dx dy)) then 1 else 0)]) (MS I J cc ss) _
              refine ev_bne _ rfl (by decide) (fun (g7 : (1 ≤ 5 ∧ 5 ≤ 5) ∧ fitP (g (37 * p + 6 * s + 13)) 5 ((g (37 * p + 6 * s + 18)) + (goF (g (37 * p + 6 * s + 13)) 5 dx dy))) => ?_) (fun (g7 : ¬ ((1 ≤ 5 ∧ 5 ≤ 5) ∧ fitP (g (37 * p + 6 * s + 13)) 5 ((g (37 * p + 6 * s + 18)) + (goF (g (37 * p + 6 * s + 13)) 5 dx dy)))) => ?_)
              · show Ev X k_X9_canMove (61, [some (vr 135), some (vi (p : Int)), some (vi (s : Int)), some (vi dx), some (vi dy), some (vi 5)], []) (MS I J cc ss) _
                refine ev_n (fr' := (68, [some (vr 135), some (vi (p : Int)), some (vi (s : Int)), some (vi dx), some (vi dy), some (vi 6)], [vi 1])) (S' := MS I J cc ss) 6 rfl ?_
                refine ev_r rfl rfl rfl ?_
                exact ⟨congrArg (fun z => Sum.inl (some (vi z))) (if_pos (by omega)).symm, rfl⟩
              · show Ev X k_X9_canMove (59, [some (vr 135), some (vi (p : Int)), some (vi (s : Int)), some (vi dx), some (vi dy), some (vi 5)], []) (MS I J cc ss) _
                refine ev_n (fr' := (60, [some (vr 135), some (vi (p : Int)), some (vi (s : Int)), some (vi dx), some (vi dy), some (vi 5)], [vi 0])) (S' := MS I J cc ss) 1 rfl ?_
                refine ev_r rfl rfl rfl ?_
                exact ⟨congrArg (fun z => Sum.inl (some (vi z))) (if_neg (by omega)).symm, rfl⟩
            · show Ev X k_X9_canMove (59, [some (vr 135), some (vi (p : Int)), some (vi (s : Int)), some (vi dx), some (vi dy), some (vi 4)], []) (MS I J cc ss) _
              refine ev_n (fr' := (60, [some (vr 135), some (vi (p : Int)), some (vi (s : Int)), some (vi dx), some (vi dy), some (vi 4)], [vi 0])) (S' := MS I J cc ss) 1 rfl ?_
              refine ev_r rfl rfl rfl ?_
              exact ⟨congrArg (fun z => Sum.inl (some (vi z))) (if_neg (by omega)).symm, rfl⟩
          · show Ev X k_X9_canMove (59, [some (vr 135), some (vi (p : Int)), some (vi (s : Int)), some (vi dx), some (vi dy), some (vi 3)], []) (MS I J cc ss) _
            refine ev_n (fr' := (60, [some (vr 135), some (vi (p : Int)), some (vi (s : Int)), some (vi dx), some (vi dy), some (vi 3)], [vi 0])) (S' := MS I J cc ss) 1 rfl ?_
            refine ev_r rfl rfl rfl ?_
            exact ⟨congrArg (fun z => Sum.inl (some (vi z))) (if_neg (by omega)).symm, rfl⟩
        · show Ev X k_X9_canMove (59, [some (vr 135), some (vi (p : Int)), some (vi (s : Int)), some (vi dx), some (vi dy), some (vi 2)], []) (MS I J cc ss) _
          refine ev_n (fr' := (60, [some (vr 135), some (vi (p : Int)), some (vi (s : Int)), some (vi dx), some (vi dy), some (vi 2)], [vi 0])) (S' := MS I J cc ss) 1 rfl ?_
          refine ev_r rfl rfl rfl ?_
          exact ⟨congrArg (fun z => Sum.inl (some (vi z))) (if_neg (by omega)).symm, rfl⟩
      · show Ev X k_X9_canMove (59, [some (vr 135), some (vi (p : Int)), some (vi (s : Int)), some (vi dx), some (vi dy), some (vi 1)], []) (MS I J cc ss) _
        refine ev_n (fr' := (60, [some (vr 135), some (vi (p : Int)), some (vi (s : Int)), some (vi dx), some (vi dy), some (vi 1)], [vi 0])) (S' := MS I J cc ss) 1 rfl ?_
        refine ev_r rfl rfl rfl ?_
        exact ⟨congrArg (fun z => Sum.inl (some (vi z))) (if_neg (by omega)).symm, rfl⟩
    · show Ev X k_X9_canMove (15, [some (vr 135), some (vi (p : Int)), some (vi (s : Int)), some (vi dx), some (vi dy), none], []) (MS I J cc ss) _
      refine ev_n (fr' := (16, [some (vr 135), some (vi (p : Int)), some (vi (s : Int)), some (vi dx), some (vi dy), none], [vi 0])) (S' := MS I J cc ss) 1 rfl ?_
      refine ev_r rfl rfl rfl ?_
      exact ⟨congrArg (fun z => Sum.inl (some (vi z))) (if_neg (by omega)).symm, rfl⟩
theorem wrS_self {g : F1} {p s w : Nat} {dx dy : Int} {q : Nat} (h : q = 37 * p + 6 * s + 13) : wrS g (37 * p + 6 * s + 13) w (fun j => g (37 * p + 6 * s + j + 13) + goF (g (37 * p + 6 * s + 13)) (j : Int) dx dy) q = g q := by
  subst h
  by_cases z : 0 < w
  · have := wrS_in (g := g) (lo := 37 * p + 6 * s + 13) (w := w) (j := 0) (v := (fun j => g (37 * p + 6 * s + j + 13) + goF (g (37 * p + 6 * s + 13)) (j : Int) dx dy)) z
    rw [Nat.add_zero] at this; rw [this]
    show g (37 * p + 6 * s + 0 + 13) + goF _ ((0 : Nat) : Int) dx dy = _
    unfold goF; rw [if_neg (by omega), if_neg (by omega), Nat.add_zero, Int.add_zero]
  · exact wrS_out (by omega)
theorem sp_ofShapeX (X : AX) (I J : Nat → Nat → Int) (cc ss : Nat) {g : F1} {u : Nat} {dx dy : Int} (p s : Nat) (hJ : J 136 = wrS g (37 * p + 6 * s + 13) u (fun j => g (37 * p + 6 * s + j + 13) + goF (g (37 * p + 6 * s + 13)) (j : Int) dx dy)) (hwp : WP g) (hp : (p : Int) < g 11) (hs : (s : Int) < g (37 * p + 12)) : Ev X k_X9_ofShape (0, [some (vr 135), some (vi (p : Int)), some (vi (s : Int)), some (vi 0)], []) (MS I J cc ss) (fun o T => o = .inl (some (vi (g (37 * p + 6 * s + 13)))) ∧ T = MS I J cc ss) := by
  have hw1 := wp_num hwp hp hs (show 0 < 6 by decide)
  rw [show 37 * p + 6 * s + 0 + 13 = 37 * p + 6 * s + 13 by omega] at hw1
  have hw2 := hwp.2.1
  have hw3 := (hwp.2.2 p hp).2.1
  refine ev_n (fr' := (6, [some (vr 135), some (vi (p : Int)), some (vi (s : Int)), some (vi 0)], [vi (s : Int), vi (p : Int), vr 136])) (S' := MS I J cc ss) 4 rfl ?_
  refine ev_cv rfl rfl rfl ⟨Nat.le_of_ble_eq_true rfl, Nat.le_of_ble_eq_true rfl⟩ (sp_shapeAt X _ (p : Int) (s : Int) (by omega)) ?_
  show Ev X k_X9_ofShape (9, [some (vr 135), some (vi (p : Int)), some (vi (s : Int)), some (vi 0)], [vi (37 * (p : Int) + 6 * (s : Int) + 13), vr 136]) (MS I J cc ss) _
  refine ev_n (fr' := (10, [some (vr 135), some (vi (p : Int)), some (vi (s : Int)), some (vi 0)], [vi 0, vi (37 * (p : Int) + 6 * (s : Int) + 13), vr 136])) (S' := MS I J cc ss) 1 rfl ?_
  refine ev_add (z := 37 * (p : Int) + 6 * (s : Int) + 13) rfl (by omega) (by omega) (by omega) ?_
  show Ev X k_X9_ofShape (11, [some (vr 135), some (vi (p : Int)), some (vi (s : Int)), some (vi 0)], [vi (37 * (p : Int) + 6 * (s : Int) + 13), vr 136]) (MS I J cc ss) _
  refine ev_laN (j := 37 * p + 6 * s + 13) (z := (g (37 * p + 6 * s + 13))) rfl rfl (by omega) (by omega) ((congrFun hJ _).trans (wrS_self (by omega))) ?_
  show Ev X k_X9_ofShape (12, [some (vr 135), some (vi (p : Int)), some (vi (s : Int)), some (vi 0)], [vl (g (37 * p + 6 * s + 13))]) (MS I J cc ss) _
  refine ev_l2i rfl (by omega) (by omega) ?_
  show Ev X k_X9_ofShape (13, [some (vr 135), some (vi (p : Int)), some (vi (s : Int)), some (vi 0)], [vi (g (37 * p + 6 * s + 13))]) (MS I J cc ss) _
  refine ev_r rfl rfl rfl ?_
  exact ⟨rfl, rfl⟩
theorem sp_goesX (X : AX) (I J : Nat → Nat → Int) (cc ss : Nat) {g : F1} {u : Nat} {ex ey : Int} (p s : Nat) (w dx dy : Int) (hJ : J 136 = wrS g (37 * p + 6 * s + 13) u (fun j => g (37 * p + 6 * s + j + 13) + goF (g (37 * p + 6 * s + 13)) (j : Int) ex ey)) (hwp : WP g) (hp : (p : Int) < g 11) (hs : (s : Int) < g (37 * p + 12)) : Ev X k_X9_goes (0, [some (vr 135), some (vi (p : Int)), some (vi (s : Int)), some (vi w), some (vi dx), some (vi dy), none], []) (MS I J cc ss) (fun o T => o = .inl (some (vi (goF (g (37 * p + 6 * s + 13)) w dx dy))) ∧ T = MS I J cc ss) := by
  refine ev_n (fr' := (4, [some (vr 135), some (vi (p : Int)), some (vi (s : Int)), some (vi w), some (vi dx), some (vi dy), none], [vi 0, vi (s : Int), vi (p : Int), vr 135])) (S' := MS I J cc ss) 4 rfl ?_
  refine ev_cv rfl rfl rfl ⟨Nat.le_of_ble_eq_true rfl, Nat.le_of_ble_eq_true rfl⟩ (sp_ofShapeX X _ _ _ _ p s hJ hwp hp hs) ?_
  show Ev X k_X9_goes (7, [some (vr 135), some (vi (p : Int)), some (vi (s : Int)), some (vi w), some (vi dx), some (vi dy), none], [vi (g (37 * p + 6 * s + 13))]) (MS I J cc ss) _
  refine ev_n (fr' := (8, [some (vr 135), some (vi (p : Int)), some (vi (s : Int)), some (vi w), some (vi dx), some (vi dy), none], [vi 2, vi (g (37 * p + 6 * s + 13))])) (S' := MS I J cc ss) 1 rfl ?_
  refine ev_ic (c := .ne) (off := 7) rfl (by decide) (fun (g1 : (g (37 * p + 6 * s + 13)) ≠ 2) => ?_) (fun (g1 : ¬ ((g (37 * p + 6 * s + 13)) ≠ 2)) => ?_)
  · show Ev X k_X9_goes (15, [some (vr 135), some (vi (p : Int)), some (vi (s : Int)), some (vi w), some (vi dx), some (vi dy), none], []) (MS I J cc ss) _
    refine ev_n (fr' := (20, [some (vr 135), some (vi (p : Int)), some (vi (s : Int)), some (vi w), some (vi dx), some (vi dy), some (vi 0)], [vi 1, vi w])) (S' := MS I J cc ss) 4 rfl ?_
    refine ev_ic (c := .eq) (off := 13) rfl (by decide) (fun (g2 : w = 1) => ?_) (fun (g2 : ¬ (w = 1)) => ?_)
    · show Ev X k_X9_goes (33, [some (vr 135), some (vi (p : Int)), some (vi (s : Int)), some (vi w), some (vi dx), some (vi dy), some (vi 0)], []) (MS I J cc ss) _
      refine ev_n (fr' := (59, [some (vr 135), some (vi (p : Int)), some (vi (s : Int)), some (vi w), some (vi dx), some (vi dy), some (vi 0)], [vi dx])) (S' := MS I J cc ss) 2 rfl ?_
      refine ev_r rfl rfl rfl ?_
      refine ⟨congrArg (fun z => Sum.inl (some (vi z))) ?_, rfl⟩
      unfold goF
      first | (exfalso; omega) | (rw [if_pos (by omega)]; done) | (rw [if_pos (by omega)]) | (rw [if_neg (by omega), if_pos (by omega)]) | (rw [if_neg (by omega), if_neg (by omega)])
    · show Ev X k_X9_goes (23, [some (vr 135), some (vi (p : Int)), some (vi (s : Int)), some (vi w), some (vi dx), some (vi dy), some (vi 0)], []) (MS I J cc ss) _
      refine ev_n (fr' := (25, [some (vr 135), some (vi (p : Int)), some (vi (s : Int)), some (vi w), some (vi dx), some (vi dy), some (vi 0)], [vi 3, vi w])) (S' := MS I J cc ss) 2 rfl ?_
      refine ev_ic (c := .ne) (off := 13) rfl (by decide) (fun (g3 : w ≠ 3) => ?_) (fun (g3 : ¬ (w ≠ 3)) => ?_)
      · show Ev X k_X9_goes (38, [some (vr 135), some (vi (p : Int)), some (vi (s : Int)), some (vi w), some (vi dx), some (vi dy), some (vi 0)], []) (MS I J cc ss) _
        refine ev_n (fr' := (40, [some (vr 135), some (vi (p : Int)), some (vi (s : Int)), some (vi w), some (vi dx), some (vi dy), some (vi 0)], [vi 2, vi w])) (S' := MS I J cc ss) 2 rfl ?_
        refine ev_ic (c := .eq) (off := 13) rfl (by decide) (fun (g4 : w = 2) => ?_) (fun (g4 : ¬ (w = 2)) => ?_)
        · show Ev X k_X9_goes (53, [some (vr 135), some (vi (p : Int)), some (vi (s : Int)), some (vi w), some (vi dx), some (vi dy), some (vi 0)], []) (MS I J cc ss) _
          refine ev_n (fr' := (59, [some (vr 135), some (vi (p : Int)), some (vi (s : Int)), some (vi w), some (vi dx), some (vi dy), some (vi 0)], [vi dy])) (S' := MS I J cc ss) 2 rfl ?_
          refine ev_r rfl rfl rfl ?_
          refine ⟨congrArg (fun z => Sum.inl (some (vi z))) ?_, rfl⟩
          unfold goF
          first | (exfalso; omega) | (rw [if_pos (by omega)]; done) | (rw [if_pos (by omega)]) | (rw [if_neg (by omega), if_pos (by omega)]) | (rw [if_neg (by omega), if_neg (by omega)])
        · show Ev X k_X9_goes (43, [some (vr 135), some (vi (p : Int)), some (vi (s : Int)), some (vi w), some (vi dx), some (vi dy), some (vi 0)], []) (MS I J cc ss) _
          refine ev_n (fr' := (45, [some (vr 135), some (vi (p : Int)), some (vi (s : Int)), some (vi w), some (vi dx), some (vi dy), some (vi 0)], [vi 4, vi w])) (S' := MS I J cc ss) 2 rfl ?_
          refine ev_ic (c := .ne) (off := 13) rfl (by decide) (fun (g5 : w ≠ 4) => ?_) (fun (g5 : ¬ (w ≠ 4)) => ?_)
          · show Ev X k_X9_goes (58, [some (vr 135), some (vi (p : Int)), some (vi (s : Int)), some (vi w), some (vi dx), some (vi dy), some (vi 0)], []) (MS I J cc ss) _
            refine ev_n (fr' := (59, [some (vr 135), some (vi (p : Int)), some (vi (s : Int)), some (vi w), some (vi dx), some (vi dy), some (vi 0)], [vi 0])) (S' := MS I J cc ss) 1 rfl ?_
            refine ev_r rfl rfl rfl ?_
            refine ⟨congrArg (fun z => Sum.inl (some (vi z))) ?_, rfl⟩
            unfold goF
            first | (exfalso; omega) | (rw [if_pos (by omega)]; done) | (rw [if_pos (by omega)]) | (rw [if_neg (by omega), if_pos (by omega)]) | (rw [if_neg (by omega), if_neg (by omega)])
          · show Ev X k_X9_goes (48, [some (vr 135), some (vi (p : Int)), some (vi (s : Int)), some (vi w), some (vi dx), some (vi dy), some (vi 0)], []) (MS I J cc ss) _
            refine ev_n (fr' := (59, [some (vr 135), some (vi (p : Int)), some (vi (s : Int)), some (vi w), some (vi dx), some (vi dy), some (vi 0)], [vi 0])) (S' := MS I J cc ss) 3 rfl ?_
            refine ev_r rfl rfl rfl ?_
            refine ⟨congrArg (fun z => Sum.inl (some (vi z))) ?_, rfl⟩
            unfold goF
            first | (exfalso; omega) | (rw [if_pos (by omega)]; done) | (rw [if_pos (by omega)]) | (rw [if_neg (by omega), if_pos (by omega)]) | (rw [if_neg (by omega), if_neg (by omega)])
      · show Ev X k_X9_goes (28, [some (vr 135), some (vi (p : Int)), some (vi (s : Int)), some (vi w), some (vi dx), some (vi dy), some (vi 0)], []) (MS I J cc ss) _
        refine ev_n (fr' := (40, [some (vr 135), some (vi (p : Int)), some (vi (s : Int)), some (vi w), some (vi dx), some (vi dy), some (vi 0)], [vi 2, vi w])) (S' := MS I J cc ss) 4 rfl ?_
        refine ev_ic (c := .eq) (off := 13) rfl (by decide) (fun (g6 : w = 2) => ?_) (fun (g6 : ¬ (w = 2)) => ?_)
        · show Ev X k_X9_goes (53, [some (vr 135), some (vi (p : Int)), some (vi (s : Int)), some (vi w), some (vi dx), some (vi dy), some (vi 0)], []) (MS I J cc ss) _
          refine ev_n (fr' := (59, [some (vr 135), some (vi (p : Int)), some (vi (s : Int)), some (vi w), some (vi dx), some (vi dy), some (vi 0)], [vi dy])) (S' := MS I J cc ss) 2 rfl ?_
          refine ev_r rfl rfl rfl ?_
          refine ⟨congrArg (fun z => Sum.inl (some (vi z))) ?_, rfl⟩
          unfold goF
          first | (exfalso; omega) | (rw [if_pos (by omega)]; done) | (rw [if_pos (by omega)]) | (rw [if_neg (by omega), if_pos (by omega)]) | (rw [if_neg (by omega), if_neg (by omega)])
        · show Ev X k_X9_goes (43, [some (vr 135), some (vi (p : Int)), some (vi (s : Int)), some (vi w), some (vi dx), some (vi dy), some (vi 0)], []) (MS I J cc ss) _
          refine ev_n (fr' := (45, [some (vr 135), some (vi (p : Int)), some (vi (s : Int)), some (vi w), some (vi dx), some (vi dy), some (vi 0)], [vi 4, vi w])) (S' := MS I J cc ss) 2 rfl ?_
          refine ev_ic (c := .ne) (off := 13) rfl (by decide) (fun (g7 : w ≠ 4) => ?_) (fun (g7 : ¬ (w ≠ 4)) => ?_)
          · show Ev X k_X9_goes (58, [some (vr 135), some (vi (p : Int)), some (vi (s : Int)), some (vi w), some (vi dx), some (vi dy), some (vi 0)], []) (MS I J cc ss) _
            refine ev_n (fr' := (59, [some (vr 135), some (vi (p : Int)), some (vi (s : Int)), some (vi w), some (vi dx), some (vi dy), some (vi 0)], [vi 0])) (S' := MS I J cc ss) 1 rfl ?_
            refine ev_r rfl rfl rfl ?_
            refine ⟨congrArg (fun z => Sum.inl (some (vi z))) ?_, rfl⟩
            unfold goF
            first | (exfalso; omega) | (rw [if_pos (by omega)]; done) | (rw [if_pos (by omega)]) | (rw [if_neg (by omega), if_pos (by omega)]) | (rw [if_neg (by omega), if_neg (by omega)])
          · show Ev X k_X9_goes (48, [some (vr 135), some (vi (p : Int)), some (vi (s : Int)), some (vi w), some (vi dx), some (vi dy), some (vi 0)], []) (MS I J cc ss) _
            refine ev_n (fr' := (59, [some (vr 135), some (vi (p : Int)), some (vi (s : Int)), some (vi w), some (vi dx), some (vi dy), some (vi 0)], [vi 0])) (S' := MS I J cc ss) 3 rfl ?_
            refine ev_r rfl rfl rfl ?_
            refine ⟨congrArg (fun z => Sum.inl (some (vi z))) ?_, rfl⟩
            unfold goF
            first | (exfalso; omega) | (rw [if_pos (by omega)]; done) | (rw [if_pos (by omega)]) | (rw [if_neg (by omega), if_pos (by omega)]) | (rw [if_neg (by omega), if_neg (by omega)])
  · show Ev X k_X9_goes (11, [some (vr 135), some (vi (p : Int)), some (vi (s : Int)), some (vi w), some (vi dx), some (vi dy), none], []) (MS I J cc ss) _
    refine ev_n (fr' := (20, [some (vr 135), some (vi (p : Int)), some (vi (s : Int)), some (vi w), some (vi dx), some (vi dy), some (vi 1)], [vi 1, vi w])) (S' := MS I J cc ss) 5 rfl ?_
    refine ev_ic (c := .eq) (off := 13) rfl (by decide) (fun (g8 : w = 1) => ?_) (fun (g8 : ¬ (w = 1)) => ?_)
    · show Ev X k_X9_goes (33, [some (vr 135), some (vi (p : Int)), some (vi (s : Int)), some (vi w), some (vi dx), some (vi dy), some (vi 1)], []) (MS I J cc ss) _
      refine ev_n (fr' := (59, [some (vr 135), some (vi (p : Int)), some (vi (s : Int)), some (vi w), some (vi dx), some (vi dy), some (vi 1)], [vi dx])) (S' := MS I J cc ss) 2 rfl ?_
      refine ev_r rfl rfl rfl ?_
      refine ⟨congrArg (fun z => Sum.inl (some (vi z))) ?_, rfl⟩
      unfold goF
      first | (exfalso; omega) | (rw [if_pos (by omega)]; done) | (rw [if_pos (by omega)]) | (rw [if_neg (by omega), if_pos (by omega)]) | (rw [if_neg (by omega), if_neg (by omega)])
    · show Ev X k_X9_goes (23, [some (vr 135), some (vi (p : Int)), some (vi (s : Int)), some (vi w), some (vi dx), some (vi dy), some (vi 1)], []) (MS I J cc ss) _
      refine ev_n (fr' := (25, [some (vr 135), some (vi (p : Int)), some (vi (s : Int)), some (vi w), some (vi dx), some (vi dy), some (vi 1)], [vi 3, vi w])) (S' := MS I J cc ss) 2 rfl ?_
      refine ev_ic (c := .ne) (off := 13) rfl (by decide) (fun (g9 : w ≠ 3) => ?_) (fun (g9 : ¬ (w ≠ 3)) => ?_)
      · show Ev X k_X9_goes (38, [some (vr 135), some (vi (p : Int)), some (vi (s : Int)), some (vi w), some (vi dx), some (vi dy), some (vi 1)], []) (MS I J cc ss) _
        refine ev_n (fr' := (40, [some (vr 135), some (vi (p : Int)), some (vi (s : Int)), some (vi w), some (vi dx), some (vi dy), some (vi 1)], [vi 2, vi w])) (S' := MS I J cc ss) 2 rfl ?_
        refine ev_ic (c := .eq) (off := 13) rfl (by decide) (fun (g10 : w = 2) => ?_) (fun (g10 : ¬ (w = 2)) => ?_)
        · show Ev X k_X9_goes (53, [some (vr 135), some (vi (p : Int)), some (vi (s : Int)), some (vi w), some (vi dx), some (vi dy), some (vi 1)], []) (MS I J cc ss) _
          refine ev_n (fr' := (59, [some (vr 135), some (vi (p : Int)), some (vi (s : Int)), some (vi w), some (vi dx), some (vi dy), some (vi 1)], [vi dy])) (S' := MS I J cc ss) 2 rfl ?_
          refine ev_r rfl rfl rfl ?_
          refine ⟨congrArg (fun z => Sum.inl (some (vi z))) ?_, rfl⟩
          unfold goF
          first | (exfalso; omega) | (rw [if_pos (by omega)]; done) | (rw [if_pos (by omega)]) | (rw [if_neg (by omega), if_pos (by omega)]) | (rw [if_neg (by omega), if_neg (by omega)])
        · show Ev X k_X9_goes (43, [some (vr 135), some (vi (p : Int)), some (vi (s : Int)), some (vi w), some (vi dx), some (vi dy), some (vi 1)], []) (MS I J cc ss) _
          refine ev_n (fr' := (45, [some (vr 135), some (vi (p : Int)), some (vi (s : Int)), some (vi w), some (vi dx), some (vi dy), some (vi 1)], [vi 4, vi w])) (S' := MS I J cc ss) 2 rfl ?_
          refine ev_ic (c := .ne) (off := 13) rfl (by decide) (fun (g11 : w ≠ 4) => ?_) (fun (g11 : ¬ (w ≠ 4)) => ?_)
          · show Ev X k_X9_goes (58, [some (vr 135), some (vi (p : Int)), some (vi (s : Int)), some (vi w), some (vi dx), some (vi dy), some (vi 1)], []) (MS I J cc ss) _
            refine ev_n (fr' := (59, [some (vr 135), some (vi (p : Int)), some (vi (s : Int)), some (vi w), some (vi dx), some (vi dy), some (vi 1)], [vi 0])) (S' := MS I J cc ss) 1 rfl ?_
            refine ev_r rfl rfl rfl ?_
            refine ⟨congrArg (fun z => Sum.inl (some (vi z))) ?_, rfl⟩
            unfold goF
            first | (exfalso; omega) | (rw [if_pos (by omega)]; done) | (rw [if_pos (by omega)]) | (rw [if_neg (by omega), if_pos (by omega)]) | (rw [if_neg (by omega), if_neg (by omega)])
          · show Ev X k_X9_goes (48, [some (vr 135), some (vi (p : Int)), some (vi (s : Int)), some (vi w), some (vi dx), some (vi dy), some (vi 1)], []) (MS I J cc ss) _
            refine ev_n (fr' := (59, [some (vr 135), some (vi (p : Int)), some (vi (s : Int)), some (vi w), some (vi dx), some (vi dy), some (vi 1)], [vi dy])) (S' := MS I J cc ss) 4 rfl ?_
            refine ev_r rfl rfl rfl ?_
            refine ⟨congrArg (fun z => Sum.inl (some (vi z))) ?_, rfl⟩
            unfold goF
            first | (exfalso; omega) | (rw [if_pos (by omega)]; done) | (rw [if_pos (by omega)]) | (rw [if_neg (by omega), if_pos (by omega)]) | (rw [if_neg (by omega), if_neg (by omega)])
      · show Ev X k_X9_goes (28, [some (vr 135), some (vi (p : Int)), some (vi (s : Int)), some (vi w), some (vi dx), some (vi dy), some (vi 1)], []) (MS I J cc ss) _
        refine ev_n (fr' := (59, [some (vr 135), some (vi (p : Int)), some (vi (s : Int)), some (vi w), some (vi dx), some (vi dy), some (vi 1)], [vi dx])) (S' := MS I J cc ss) 4 rfl ?_
        refine ev_r rfl rfl rfl ?_
        refine ⟨congrArg (fun z => Sum.inl (some (vi z))) ?_, rfl⟩
        unfold goF
        first | (exfalso; omega) | (rw [if_pos (by omega)]; done) | (rw [if_pos (by omega)]) | (rw [if_neg (by omega), if_pos (by omega)]) | (rw [if_neg (by omega), if_neg (by omega)])
theorem lp_moves (X : AX) (I J : Nat → Nat → Int) (cc ss : Nat) {g : F1} (J0 : F2) (p s : Nat) (dx dy : Int) (hwp : WP g) (hp : (p : Int) < g 11) (hs : (s : Int) < g (37 * p + 12)) (hdx : -48 ≤ dx ∧ dx ≤ 48) (hdy : -48 ≤ dy ∧ dy ≤ 48) (w : Nat) (hw : 1 ≤ w ∧ w ≤ 6) (hF : ∀ a, a ≠ 136 → J a = J0 a) (hJ : J 136 = (wrS g (37 * p + 6 * s + 13) w (fun j => g (37 * p + 6 * s + j + 13) + goF (g (37 * p + 6 * s + 13)) (j : Int) dx dy))) : Ev X k_X9_moves (3, [some (vr 135), some (vi (p : Int)), some (vi (s : Int)), some (vi dx), some (vi dy), some (vi (w : Int))], []) (MS I J cc ss) (PV cc ss none (fun I' J' => I' = I ∧ (∀ a, a ≠ 136 → J' a = J0 a) ∧ J' 136 = wrS g (37 * p + 6 * s + 13) 6 (fun j => g (37 * p + 6 * s + j + 13) + goF (g (37 * p + 6 * s + 13)) (j : Int) dx dy))) := by
  have hw2 := hwp.2.1
  have hw3 := (hwp.2.2 p hp).2.1
  have hnn := fun q : w < 6 => wp_num hwp hp hs q
  refine ev_n (fr' := (7, [some (vr 135), some (vi (p : Int)), some (vi (s : Int)), some (vi dx), some (vi dy), some (vi (w : Int))], [vi 6, vi (w : Int)])) (S' := MS I J cc ss) 2 rfl ?_
  refine ev_ic (c := .ge) (off := 37) rfl (by decide) (fun (g1 : 6 ≤ (w : Int)) => ?_) (fun (g1 : ¬ (6 ≤ (w : Int))) => ?_)
  · show Ev X k_X9_moves (44, [some (vr 135), some (vi (p : Int)), some (vi (s : Int)), some (vi dx), some (vi dy), some (vi (w : Int))], []) (MS I J cc ss) _
    refine ev_r rfl rfl rfl ?_
    have e9 : w = 6 := by omega
    rw [e9] at hJ
    exact ⟨_, _, rfl, rfl, rfl, hF, hJ⟩
  · show Ev X k_X9_moves (10, [some (vr 135), some (vi (p : Int)), some (vi (s : Int)), some (vi dx), some (vi dy), some (vi (w : Int))], []) (MS I J cc ss) _
    have hn9 := hnn (by omega)
    refine ev_n (fr' := (16, [some (vr 135), some (vi (p : Int)), some (vi (s : Int)), some (vi dx), some (vi dy), some (vi (w : Int))], [vi (s : Int), vi (p : Int), vr 136])) (S' := MS I J cc ss) 4 rfl ?_
    refine ev_cv rfl rfl rfl ⟨Nat.le_of_ble_eq_true rfl, Nat.le_of_ble_eq_true rfl⟩ (sp_shapeAt X _ (p : Int) (s : Int) (by omega)) ?_
    show Ev X k_X9_moves (19, [some (vr 135), some (vi (p : Int)), some (vi (s : Int)), some (vi dx), some (vi dy), some (vi (w : Int))], [vi (37 * (p : Int) + 6 * (s : Int) + 13), vr 136]) (MS I J cc ss) _
    refine ev_n (fr' := (21, [some (vr 135), some (vi (p : Int)), some (vi (s : Int)), some (vi dx), some (vi dy), some (vi (w : Int))], [vi (w : Int), vi (37 * (p : Int) + 6 * (s : Int) + 13), vr 136])) (S' := MS I J cc ss) 1 rfl ?_
    refine ev_add (z := 37 * (p : Int) + 6 * (s : Int) + (w : Int) + 13) rfl (by omega) (by omega) (by omega) ?_
    show Ev X k_X9_moves (22, [some (vr 135), some (vi (p : Int)), some (vi (s : Int)), some (vi dx), some (vi dy), some (vi (w : Int))], [vi (37 * (p : Int) + 6 * (s : Int) + (w : Int) + 13), vr 136]) (MS I J cc ss) _
    refine ev_n (fr' := (23, [some (vr 135), some (vi (p : Int)), some (vi (s : Int)), some (vi dx), some (vi dy), some (vi (w : Int))], [vi (37 * (p : Int) + 6 * (s : Int) + (w : Int) + 13), vr 136, vi (37 * (p : Int) + 6 * (s : Int) + (w : Int) + 13), vr 136])) (S' := MS I J cc ss) 1 rfl ?_
    refine ev_laN (j := 37 * p + 6 * s + w + 13) (z := (g (37 * p + 6 * s + w + 13))) rfl rfl (by omega) (by omega) ((congrFun hJ _).trans (wrS_out (by omega))) ?_
    show Ev X k_X9_moves (24, [some (vr 135), some (vi (p : Int)), some (vi (s : Int)), some (vi dx), some (vi dy), some (vi (w : Int))], [vl (g (37 * p + 6 * s + w + 13)), vi (37 * (p : Int) + 6 * (s : Int) + (w : Int) + 13), vr 136]) (MS I J cc ss) _
    refine ev_n (fr' := (32, [some (vr 135), some (vi (p : Int)), some (vi (s : Int)), some (vi dx), some (vi dy), some (vi (w : Int))], [vi dy, vi dx, vi (w : Int), vi (s : Int), vi (p : Int), vr 135, vl (g (37 * p + 6 * s + w + 13)), vi (37 * (p : Int) + 6 * (s : Int) + (w : Int) + 13), vr 136])) (S' := MS I J cc ss) 6 rfl ?_
    refine ev_cv rfl rfl rfl ⟨Nat.le_of_ble_eq_true rfl, Nat.le_of_ble_eq_true rfl⟩ (sp_goesX X _ _ _ _ p s (w : Int) dx dy hJ hwp hp hs) ?_
    show Ev X k_X9_moves (35, [some (vr 135), some (vi (p : Int)), some (vi (s : Int)), some (vi dx), some (vi dy), some (vi (w : Int))], [vi (goF (g (37 * p + 6 * s + 13)) (w : Int) dx dy), vl (g (37 * p + 6 * s + w + 13)), vi (37 * (p : Int) + 6 * (s : Int) + (w : Int) + 13), vr 136]) (MS I J cc ss) _
    have := goF_rng (kd := g (37 * p + 6 * s + 13)) (w := (w : Int)) (dx := dx) (dy := dy) hdx hdy
    refine ev_n (fr' := (36, [some (vr 135), some (vi (p : Int)), some (vi (s : Int)), some (vi dx), some (vi dy), some (vi (w : Int))], [vl (goF (g (37 * p + 6 * s + 13)) (w : Int) dx dy), vl (g (37 * p + 6 * s + w + 13)), vi (37 * (p : Int) + 6 * (s : Int) + (w : Int) + 13), vr 136])) (S' := MS I J cc ss) 1 rfl ?_
    refine ev_ladd (z := (g (37 * p + 6 * s + w + 13)) + (goF (g (37 * p + 6 * s + 13)) (w : Int) dx dy)) rfl (by omega) (by omega) (by omega) ?_
    show Ev X k_X9_moves (37, [some (vr 135), some (vi (p : Int)), some (vi (s : Int)), some (vi dx), some (vi dy), some (vi (w : Int))], [vl ((g (37 * p + 6 * s + w + 13)) + (goF (g (37 * p + 6 * s + 13)) (w : Int) dx dy)), vi (37 * (p : Int) + 6 * (s : Int) + (w : Int) + 13), vr 136]) (MS I J cc ss) _
    refine ev_lasN (j := 37 * p + 6 * s + w + 13) rfl rfl (by omega) (by omega) ?_
    show Ev X k_X9_moves (38, [some (vr 135), some (vi (p : Int)), some (vi (s : Int)), some (vi dx), some (vi dy), some (vi (w : Int))], []) (MS I (up2 J 136 (37 * p + 6 * s + w + 13) ((g (37 * p + 6 * s + w + 13)) + (goF (g (37 * p + 6 * s + 13)) (w : Int) dx dy))) cc ss) _
    refine ev_inc (z := (w : Int) + 1) rfl rfl (by omega) (by omega) (by omega) rfl ?_
    show Ev X k_X9_moves (41, [some (vr 135), some (vi (p : Int)), some (vi (s : Int)), some (vi dx), some (vi dy), some (vi ((w : Int) + 1))], []) (MS I (up2 J 136 (37 * p + 6 * s + w + 13) ((g (37 * p + 6 * s + w + 13)) + (goF (g (37 * p + 6 * s + 13)) (w : Int) dx dy))) cc ss) _
    refine ev_n (fr' := (3, [some (vr 135), some (vi (p : Int)), some (vi (s : Int)), some (vi dx), some (vi dy), some (vi ((w : Int) + 1))], [])) (S' := MS I (up2 J 136 (37 * p + 6 * s + w + 13) ((g (37 * p + 6 * s + w + 13)) + (goF (g (37 * p + 6 * s + 13)) (w : Int) dx dy))) cc ss) 1 rfl ?_
    have hsh := wrS_next g (37 * p + 6 * s + 13) w (fun j => g (37 * p + 6 * s + j + 13) + goF (g (37 * p + 6 * s + 13)) (j : Int) dx dy)
    rw [show (37 * p + 6 * s + 13) + w = 37 * p + 6 * s + w + 13 by omega] at hsh
    exact lp_moves X I _ cc ss J0 p s dx dy hwp hp hs hdx hdy (w + 1) (by omega) (fun a ha => by rw [up2_row _ _ _ _ ha]; exact hF a ha) (by
      rw [← hsh, ← hJ]
      funext k; unfold up2 upd1; rw [if_pos rfl])
termination_by 7 - w
decreasing_by all_goals omega
theorem sp_moves (X : AX) (I J : Nat → Nat → Int) (cc ss : Nat) {g : F1} (p s : Nat) (dx dy : Int) (hg : J 136 = g) (hwp : WP g) (hp : (p : Int) < g 11) (hs : (s : Int) < g (37 * p + 12)) (hdx : -48 ≤ dx ∧ dx ≤ 48) (hdy : -48 ≤ dy ∧ dy ≤ 48) : Ev X k_X9_moves (0, [some (vr 135), some (vi (p : Int)), some (vi (s : Int)), some (vi dx), some (vi dy), none], []) (MS I J cc ss) (PV cc ss none (fun I' J' => I' = I ∧ (∀ a, a ≠ 136 → J' a = J a) ∧ J' 136 = wrS g (37 * p + 6 * s + 13) 6 (fun j => g (37 * p + 6 * s + j + 13) + goF (g (37 * p + 6 * s + 13)) (j : Int) dx dy))) := by
  refine ev_n (fr' := (3, [some (vr 135), some (vi (p : Int)), some (vi (s : Int)), some (vi dx), some (vi dy), some (vi 1)], [])) (S' := MS I J cc ss) 2 rfl ?_
  refine lp_moves X I J cc ss J p s dx dy hwp hp hs hdx hdy 1 (by omega) (fun _ _ => rfl) ?_
  rw [hg]
  funext k
  unfold wrS
  by_cases e : 37 * p + 6 * s + 13 ≤ k ∧ k < 37 * p + 6 * s + 13 + 1
  · rw [if_pos e, show k - (37 * p + 6 * s + 13) = 0 by omega, show k = 37 * p + 6 * s + 0 + 13 by omega]
    show g (37 * p + 6 * s + 0 + 13) = g (37 * p + 6 * s + 0 + 13) + goF (g (37 * p + 6 * s + 13)) ((0 : Nat) : Int) dx dy
    unfold goF; rw [if_neg (by omega), if_neg (by omega), Int.add_zero]
  · rw [if_neg e]
