/-! A SIZE DROPPED, A ROW ADDED, A SIZE PUT (printed by gen/g58.py) -/
theorem lp_sdrop (X : AX) (I J : Nat → Nat → Int) (cc ss : Nat) {g : F1} (I0 : F2) (s n : Nat) (hs : s < n) (hn5 : n ≤ 5) (k : Nat) (hk : s ≤ k ∧ k + 1 ≤ n) (hn : I 2 2 = (n : Int)) (hF : ∀ a, a ≠ 2 → a ≠ 3 → a ≠ 4 → I a = I0 a) (hA : ∀ j, j < s → I 3 j = g (2 * j + 1) ∧ I 4 j = g (2 * j + 2)) (hB : ∀ j, s ≤ j → j < k → I 3 j = g (2 * (j + 1) + 1) ∧ I 4 j = g (2 * (j + 1) + 2)) (hC : ∀ j, k ≤ j → j < n → I 3 j = g (2 * j + 1) ∧ I 4 j = g (2 * j + 2)) : Ev X k_X5_drop (11, [some (vr 2), some (vi (s : Int)), some (vi (k : Int))], []) (MS I J cc ss) (PV cc ss none (fun I' J' => J' = J ∧ (∀ a, a ≠ 2 → a ≠ 3 → a ≠ 4 → I' a = I0 a) ∧ SRep I' 1 (remF g s n))) := by
  refine ev_n (fr' := (16, [some (vr 2), some (vi (s : Int)), some (vi (k : Int))], [vi (I 2 2), vi (k : Int)])) (S' := MS I J cc ss) 3 rfl ?_
  refine ev_eqi (hn) ?_
  show Ev X k_X5_drop (16, [some (vr 2), some (vi (s : Int)), some (vi (k : Int))], [vi (n : Int), vi (k : Int)]) (MS I J cc ss) _
  refine ev_n (fr' := (17, [some (vr 2), some (vi (s : Int)), some (vi (k : Int))], [vi 1, vi (n : Int), vi (k : Int)])) (S' := MS I J cc ss) 1 rfl ?_
  refine ev_sub (z := (n : Int) - 1) rfl (by omega) (by omega) (by omega) ?_
  show Ev X k_X5_drop (18, [some (vr 2), some (vi (s : Int)), some (vi (k : Int))], [vi ((n : Int) - 1), vi (k : Int)]) (MS I J cc ss) _
  refine ev_ic (c := .ge) (off := 37) rfl (by decide) (fun (g1 : (n : Int) - 1 ≤ (k : Int)) => ?_) (fun (g1 : ¬ ((n : Int) - 1 ≤ (k : Int))) => ?_)
  · show Ev X k_X5_drop (55, [some (vr 2), some (vi (s : Int)), some (vi (k : Int))], []) (MS I J cc ss) _
    refine ev_n (fr' := (60, [some (vr 2), some (vi (s : Int)), some (vi (k : Int))], [vi (I 2 2), vr 2])) (S' := MS I J cc ss) 3 rfl ?_
    refine ev_eqi (hn) ?_
    show Ev X k_X5_drop (60, [some (vr 2), some (vi (s : Int)), some (vi (k : Int))], [vi (n : Int), vr 2]) (MS I J cc ss) _
    refine ev_n (fr' := (61, [some (vr 2), some (vi (s : Int)), some (vi (k : Int))], [vi 1, vi (n : Int), vr 2])) (S' := MS I J cc ss) 1 rfl ?_
    refine ev_sub (z := (n : Int) - 1) rfl (by omega) (by omega) (by omega) ?_
    show Ev X k_X5_drop (62, [some (vr 2), some (vi (s : Int)), some (vi (k : Int))], [vi ((n : Int) - 1), vr 2]) (MS I J cc ss) _
    refine ev_n (fr' := (65, [some (vr 2), some (vi (s : Int)), some (vi (k : Int))], [])) (S' := MS (up2 I 2 2 ((n : Int) - 1)) J cc ss) 1 rfl ?_
    refine ev_r rfl rfl rfl ?_
    refine ⟨_, _, rfl, rfl, rfl, fun a h1 h2 h3 => by rw [up2_row _ _ _ _ h1]; exact hF a h1 h2 h3, ?_, fun j hj => ?_⟩
    · rw [up2_same]; unfold remF; rw [if_pos rfl]; omega
    · have hj : (j : Int) < ((n - 1 : Nat) : Int) := by unfold remF at hj; rw [if_pos rfl] at hj; exact hj
      rw [up2_row _ _ _ _ (by omega), up2_row _ _ _ _ (by omega)]
      unfold remF
      rw [if_neg (show ¬ 2 * j + 1 = 0 by omega), if_neg (show ¬ 2 * j + 2 = 0 by omega)]
      by_cases e : j < s
      · rw [if_neg (show ¬ (2 * s + 1 ≤ 2 * j + 1 ∧ 2 * j + 1 < 2 * (n - 1) + 1) by omega), if_neg (show ¬ (2 * s + 1 ≤ 2 * j + 2 ∧ 2 * j + 2 < 2 * (n - 1) + 1) by omega)]; exact hA j e
      · rw [if_pos (show 2 * s + 1 ≤ 2 * j + 1 ∧ 2 * j + 1 < 2 * (n - 1) + 1 by omega), if_pos (show 2 * s + 1 ≤ 2 * j + 2 ∧ 2 * j + 2 < 2 * (n - 1) + 1 by omega)]; exact hB j (by omega) (by omega)
  · show Ev X k_X5_drop (21, [some (vr 2), some (vi (s : Int)), some (vi (k : Int))], []) (MS I J cc ss) _
    refine ev_n (fr' := (32, [some (vr 2), some (vi (s : Int)), some (vi (k : Int))], [vi 1, vi (k : Int), vr 3, vi (k : Int), vr 3])) (S' := MS I J cc ss) 7 rfl ?_
    refine ev_add (z := (k : Int) + 1) rfl (by omega) (by omega) (by omega) ?_
    show Ev X k_X5_drop (33, [some (vr 2), some (vi (s : Int)), some (vi (k : Int))], [vi ((k : Int) + 1), vr 3, vi (k : Int), vr 3]) (MS I J cc ss) _
    refine ev_iaN (j := k + 1) (z := (g (2 * (k + 1) + 1))) rfl rfl (by omega) (by omega) ((hC (k + 1) (by omega) (by omega)).1) ?_
    show Ev X k_X5_drop (34, [some (vr 2), some (vi (s : Int)), some (vi (k : Int))], [vi (g (2 * (k + 1) + 1)), vi (k : Int), vr 3]) (MS I J cc ss) _
    refine ev_iasN (j := k) rfl rfl (by omega) (by omega) ?_
    show Ev X k_X5_drop (35, [some (vr 2), some (vi (s : Int)), some (vi (k : Int))], []) (MS (up2 I 3 k (g (2 * (k + 1) + 1))) J cc ss) _
    refine ev_n (fr' := (46, [some (vr 2), some (vi (s : Int)), some (vi (k : Int))], [vi 1, vi (k : Int), vr 4, vi (k : Int), vr 4])) (S' := MS (up2 I 3 k (g (2 * (k + 1) + 1))) J cc ss) 7 rfl ?_
    refine ev_add (z := (k : Int) + 1) rfl (by omega) (by omega) (by omega) ?_
    show Ev X k_X5_drop (47, [some (vr 2), some (vi (s : Int)), some (vi (k : Int))], [vi ((k : Int) + 1), vr 4, vi (k : Int), vr 4]) (MS (up2 I 3 k (g (2 * (k + 1) + 1))) J cc ss) _
    refine ev_iaN (j := k + 1) (z := (g (2 * (k + 1) + 2))) rfl rfl (by omega) (by omega) (show I 4 (k + 1) = g (2 * (k + 1) + 2) from (hC (k + 1) (by omega) (by omega)).2) ?_
    show Ev X k_X5_drop (48, [some (vr 2), some (vi (s : Int)), some (vi (k : Int))], [vi (g (2 * (k + 1) + 2)), vi (k : Int), vr 4]) (MS (up2 I 3 k (g (2 * (k + 1) + 1))) J cc ss) _
    refine ev_iasN (j := k) rfl rfl (by omega) (by omega) ?_
    show Ev X k_X5_drop (49, [some (vr 2), some (vi (s : Int)), some (vi (k : Int))], []) (MS (up2 (up2 I 3 k (g (2 * (k + 1) + 1))) 4 k (g (2 * (k + 1) + 2))) J cc ss) _
    refine ev_inc (z := (k : Int) + 1) rfl rfl (by omega) (by omega) (by omega) rfl ?_
    show Ev X k_X5_drop (52, [some (vr 2), some (vi (s : Int)), some (vi ((k : Int) + 1))], []) (MS (up2 (up2 I 3 k (g (2 * (k + 1) + 1))) 4 k (g (2 * (k + 1) + 2))) J cc ss) _
    refine ev_n (fr' := (11, [some (vr 2), some (vi (s : Int)), some (vi ((k : Int) + 1))], [])) (S' := MS (up2 (up2 I 3 k (g (2 * (k + 1) + 1))) 4 k (g (2 * (k + 1) + 2))) J cc ss) 1 rfl ?_
    refine lp_sdrop X _ J cc ss I0 s n hs hn5 (k + 1) (by omega) (by rw [up2_row _ _ _ _ (by decide), up2_row _ _ _ _ (by decide)]; exact hn) (fun a h1 h2 h3 => by rw [up2_row _ _ _ _ h3, up2_row _ _ _ _ h2]; exact hF a h1 h2 h3) (fun j hj => ?_) (fun j hj hj2 => ?_) (fun j hj hj2 => ?_)
    · rw [up2_row _ _ _ _ (by decide), up2_ne2 _ _ _ _ (by omega), up2_ne2 _ _ _ _ (by omega), up2_row _ _ _ _ (by decide)]; exact hA j hj
    · rw [up2_row _ _ _ _ (by decide)]
      by_cases e : j = k
      · rw [e, up2_same, up2_same]; exact ⟨rfl, rfl⟩
      · rw [up2_ne2 _ _ _ _ e, up2_ne2 _ _ _ _ e, up2_row _ _ _ _ (by decide)]; exact hB j hj (by omega)
    · rw [up2_row _ _ _ _ (by decide), up2_ne2 _ _ _ _ (by omega), up2_ne2 _ _ _ _ (by omega), up2_row _ _ _ _ (by decide)]; exact hC j (by omega) hj2
termination_by 6 - k
decreasing_by all_goals omega
theorem sp_sdrop (X : AX) (I J : Nat → Nat → Int) (cc ss : Nat) {g : F1} (s n : Nat) (hS : SRep I 1 g) (hg0 : g 0 = (n : Int)) (hs : s < n) (hn5 : n ≤ 5) : Ev X k_X5_drop (0, [some (vr 2), some (vi (s : Int)), none], []) (MS I J cc ss) (PV cc ss none (fun I' J' => J' = J ∧ (∀ a, a ≠ 2 → a ≠ 3 → a ≠ 4 → I' a = I a) ∧ SRep I' 1 (remF g s n))) := by
  refine ev_n (fr' := (2, [some (vr 2), some (vi (s : Int)), none], [vi (s : Int), vr 2])) (S' := MS I J cc ss) 2 rfl ?_
  refine ev_cv rfl rfl rfl ⟨Nat.le_of_ble_eq_true rfl, Nat.le_of_ble_eq_true rfl⟩ (sp_has_2 X _ _ _ _ (s : Int) hS) ?_
  show Ev X k_X5_drop (5, [some (vr 2), some (vi (s : Int)), none], [vi (if 0 ≤ (s : Int) ∧ (s : Int) < g 0 then 1 else 0)]) (MS I J cc ss) _
  refine ev_bne _ rfl (by decide) (fun (g1 : 0 ≤ (s : Int) ∧ (s : Int) < g 0) => ?_) (fun (g1 : ¬ (0 ≤ (s : Int) ∧ (s : Int) < g 0)) => False.elim (by omega))
  show Ev X k_X5_drop (9, [some (vr 2), some (vi (s : Int)), none], []) (MS I J cc ss) _
  refine ev_n (fr' := (11, [some (vr 2), some (vi (s : Int)), some (vi (s : Int))], [])) (S' := MS I J cc ss) 2 rfl ?_
  exact lp_sdrop X I J cc ss I s n hs hn5 s (by omega) (hS.1.trans hg0) (fun _ _ _ _ => rfl) (fun j hj => hS.2 j (by omega)) (fun j h1 h2 => absurd h1 (by omega)) (fun j _ h2 => hS.2 j (by omega))
theorem PRep.row {I J : F2} {R n : Nat} {g : F1} {x : Int} (h : PRep I J R g) (hn : g 11 = (n : Int)) (hn8 : n < 8) (h6 : ∀ q : Nat, (q : Int) < g 11 → g (37 * q + 12) ≤ 6) : PRep (up2 (up2 I (R + 2) n 0) R 4 ((n : Int) + 1)) (up2 J (R + 1) n x) R (rowF g 11 (n + 461) (37 * n + 12) n x) := by
  have e11 : rowF g 11 (n + 461) (37 * n + 12) n x 11 = (n : Int) + 1 := by unfold rowF; rw [if_pos rfl]
  refine ⟨by rw [up2_ne2 _ _ _ _ (by omega), up2_row _ _ _ _ (by omega)]; exact h.1, by rw [up2_same, e11], fun q hq => ?_⟩
  rw [e11] at hq
  rw [up2_row (up2 I (R + 2) n 0) R 4 ((n : Int) + 1) (show R + 2 ≠ R by omega), up2_row (up2 I (R + 2) n 0) R 4 ((n : Int) + 1) (show R + 3 ≠ R by omega)]
  by_cases e : q = n
  · subst e
    rw [up2_same, up2_same]
    have ec : rowF g 11 (q + 461) (37 * q + 12) q x (37 * q + 12) = 0 := by unfold rowF; rw [if_neg (by omega), if_neg (by omega), if_pos rfl]
    refine ⟨by unfold rowF; rw [if_neg (by omega), if_pos rfl], ec.symm, fun s w hs _ => ?_⟩
    rw [ec] at hs; omega
  · have hq2 : (q : Int) < g 11 := by omega
    have h9 := h.2.2 q hq2
    have h66 := h6 q hq2
    rw [up2_ne2 _ _ _ _ e, up2_ne2 _ _ _ _ e]
    have ec : rowF g 11 (n + 461) (37 * n + 12) n x (37 * q + 12) = g (37 * q + 12) := by unfold rowF; rw [if_neg (by omega), if_neg (by omega), if_neg (by omega)]
    refine ⟨by unfold rowF; rw [if_neg (by omega), if_neg (by omega), if_neg (by omega)]; exact h9.1, by rw [ec]; exact h9.2.1, fun s w hs hw => ?_⟩
    rw [ec] at hs
    have := ixP1 (p := q) (q := n) (s := s) (w := w) (by omega) hw
    rw [up2_row _ _ _ _ (by omega)]
    unfold rowF; rw [if_neg (by omega), if_neg (by omega), if_neg (by omega)]; exact h9.2.2 s w hs hw
theorem IRep.row {I J : F2} {R n : Nat} {g : F1} {x : Int} (h : IRep I J R g) (hn : g 308 = (n : Int)) (hn8 : n < 8) (h6 : ∀ q : Nat, (q : Int) < g 308 → g (19 * q + 309) ≤ 6) : IRep (up2 (up2 I (R + 2) n 0) R 4 ((n : Int) + 1)) (up2 J (R + 1) n x) R (rowF g 308 (n + 469) (19 * n + 309) n x) := by
  have e11 : rowF g 308 (n + 469) (19 * n + 309) n x 308 = (n : Int) + 1 := by unfold rowF; rw [if_pos rfl]
  refine ⟨by rw [up2_ne2 _ _ _ _ (by omega), up2_row _ _ _ _ (by omega)]; exact h.1, by rw [up2_same, e11], fun q hq => ?_⟩
  rw [e11] at hq
  rw [up2_row (up2 I (R + 2) n 0) R 4 ((n : Int) + 1) (show R + 2 ≠ R by omega), up2_row (up2 I (R + 2) n 0) R 4 ((n : Int) + 1) (show R + 3 ≠ R by omega)]
  by_cases e : q = n
  · subst e
    rw [up2_same, up2_same]
    have ec : rowF g 308 (q + 469) (19 * q + 309) q x (19 * q + 309) = 0 := by unfold rowF; rw [if_neg (by omega), if_neg (by omega), if_pos rfl]
    refine ⟨by unfold rowF; rw [if_neg (by omega), if_pos rfl], ec.symm, fun s w hs _ => ?_⟩
    rw [ec] at hs; omega
  · have hq2 : (q : Int) < g 308 := by omega
    have h9 := h.2.2 q hq2
    have h66 := h6 q hq2
    rw [up2_ne2 _ _ _ _ e, up2_ne2 _ _ _ _ e]
    have ec : rowF g 308 (n + 469) (19 * n + 309) n x (19 * q + 309) = g (19 * q + 309) := by unfold rowF; rw [if_neg (by omega), if_neg (by omega), if_neg (by omega)]
    refine ⟨by unfold rowF; rw [if_neg (by omega), if_neg (by omega), if_neg (by omega)]; exact h9.1, by rw [ec]; exact h9.2.1, fun s w hs hw => ?_⟩
    rw [ec] at hs
    have := ixI1 (p := q) (q := n) (s := s) (w := w) (by omega) hw
    rw [up2_row _ _ _ _ (by omega)]
    unfold rowF; rw [if_neg (by omega), if_neg (by omega), if_neg (by omega)]; exact h9.2.2 s w hs hw
theorem sp_addRow_118 (X : AX) (I J : Nat → Nat → Int) (cc ss : Nat) {d : F1} (n : Nat) (x : Int) (dP : PRep I J 118 d) (hn : d 11 = (n : Int)) (hn8 : n < 8) : Ev X k_X3_addRow (0, [some (vr 118), some (vl x), none], []) (MS I J cc ss) (fun o T => o = .inl (some (vi (n : Int))) ∧ T = MS (up2 (up2 I 120 n 0) 118 4 ((n : Int) + 1)) (up2 J 119 n x) cc ss) := by
  refine ev_n (fr' := (1, [some (vr 118), some (vl x), none], [vr 118])) (S' := MS I J cc ss) 1 rfl ?_
  refine ev_cv rfl rfl rfl ⟨Nat.le_of_ble_eq_true rfl, Nat.le_of_ble_eq_true rfl⟩ (sp_rIsFull_118 X _ _ _ _ dP) ?_
  show Ev X k_X3_addRow (4, [some (vr 118), some (vl x), none], [vi (if 8 ≤ d 11 then 1 else 0)]) (MS I J cc ss) _
  refine ev_beq _ rfl (by decide) (fun (g1 : ¬ (8 ≤ d 11)) => ?_) (fun (g1 : 8 ≤ d 11) => False.elim (by omega))
  show Ev X k_X3_addRow (9, [some (vr 118), some (vl x), none], []) (MS I J cc ss) _
  refine ev_n (fr' := (17, [some (vr 118), some (vl x), none], [vi (I 118 4), vr 119])) (S' := MS I J cc ss) 4 rfl ?_
  refine ev_eqi (dP.2.1.trans hn) ?_
  show Ev X k_X3_addRow (17, [some (vr 118), some (vl x), none], [vi (n : Int), vr 119]) (MS I J cc ss) _
  refine ev_n (fr' := (18, [some (vr 118), some (vl x), none], [vl x, vi (n : Int), vr 119])) (S' := MS I J cc ss) 1 rfl ?_
  refine ev_lasN (j := n) rfl rfl (by omega) (by omega) ?_
  show Ev X k_X3_addRow (19, [some (vr 118), some (vl x), none], []) (MS I (up2 J 119 n x) cc ss) _
  refine ev_n (fr' := (27, [some (vr 118), some (vl x), none], [vi (I 118 4), vr 120])) (S' := MS I (up2 J 119 n x) cc ss) 4 rfl ?_
  refine ev_eqi (dP.2.1.trans hn) ?_
  show Ev X k_X3_addRow (27, [some (vr 118), some (vl x), none], [vi (n : Int), vr 120]) (MS I (up2 J 119 n x) cc ss) _
  refine ev_n (fr' := (28, [some (vr 118), some (vl x), none], [vi 0, vi (n : Int), vr 120])) (S' := MS I (up2 J 119 n x) cc ss) 1 rfl ?_
  refine ev_iasN (j := n) rfl rfl (by omega) (by omega) ?_
  show Ev X k_X3_addRow (29, [some (vr 118), some (vl x), none], []) (MS (up2 I 120 n 0) (up2 J 119 n x) cc ss) _
  refine ev_n (fr' := (34, [some (vr 118), some (vl x), none], [vi (I 118 4), vr 118])) (S' := MS (up2 I 120 n 0) (up2 J 119 n x) cc ss) 3 rfl ?_
  refine ev_eqi (dP.2.1.trans hn) ?_
  show Ev X k_X3_addRow (34, [some (vr 118), some (vl x), none], [vi (n : Int), vr 118]) (MS (up2 I 120 n 0) (up2 J 119 n x) cc ss) _
  refine ev_n (fr' := (35, [some (vr 118), some (vl x), none], [vi 1, vi (n : Int), vr 118])) (S' := MS (up2 I 120 n 0) (up2 J 119 n x) cc ss) 1 rfl ?_
  refine ev_add (z := (n : Int) + 1) rfl (by omega) (by omega) (by omega) ?_
  show Ev X k_X3_addRow (36, [some (vr 118), some (vl x), none], [vi ((n : Int) + 1), vr 118]) (MS (up2 I 120 n 0) (up2 J 119 n x) cc ss) _
  refine ev_n (fr' := (39, [some (vr 118), some (vl x), none], [])) (S' := MS (up2 (up2 I 120 n 0) 118 4 ((n : Int) + 1)) (up2 J 119 n x) cc ss) 1 rfl ?_
  refine ev_n (fr' := (44, [some (vr 118), some (vl x), none], [vi 1, vi ((n : Int) + 1)])) (S' := MS (up2 (up2 I 120 n 0) 118 4 ((n : Int) + 1)) (up2 J 119 n x) cc ss) 3 rfl ?_
  refine ev_sub (z := (n : Int)) rfl (by omega) (by omega) (by omega) ?_
  show Ev X k_X3_addRow (45, [some (vr 118), some (vl x), none], [vi (n : Int)]) (MS (up2 (up2 I 120 n 0) 118 4 ((n : Int) + 1)) (up2 J 119 n x) cc ss) _
  refine ev_r rfl rfl rfl ?_
  exact ⟨congrArg (fun z => Sum.inl (some (vi z))) (by omega), rfl⟩
theorem sp_addRow_122 (X : AX) (I J : Nat → Nat → Int) (cc ss : Nat) {d : F1} (n : Nat) (x : Int) (dI : IRep I J 122 d) (hn : d 308 = (n : Int)) (hn8 : n < 8) : Ev X k_X3_addRow (0, [some (vr 122), some (vl x), none], []) (MS I J cc ss) (fun o T => o = .inl (some (vi (n : Int))) ∧ T = MS (up2 (up2 I 124 n 0) 122 4 ((n : Int) + 1)) (up2 J 123 n x) cc ss) := by
  refine ev_n (fr' := (1, [some (vr 122), some (vl x), none], [vr 122])) (S' := MS I J cc ss) 1 rfl ?_
  refine ev_cv rfl rfl rfl ⟨Nat.le_of_ble_eq_true rfl, Nat.le_of_ble_eq_true rfl⟩ (sp_rIsFull_122 X _ _ _ _ dI) ?_
  show Ev X k_X3_addRow (4, [some (vr 122), some (vl x), none], [vi (if 8 ≤ d 308 then 1 else 0)]) (MS I J cc ss) _
  refine ev_beq _ rfl (by decide) (fun (g1 : ¬ (8 ≤ d 308)) => ?_) (fun (g1 : 8 ≤ d 308) => False.elim (by omega))
  show Ev X k_X3_addRow (9, [some (vr 122), some (vl x), none], []) (MS I J cc ss) _
  refine ev_n (fr' := (17, [some (vr 122), some (vl x), none], [vi (I 122 4), vr 123])) (S' := MS I J cc ss) 4 rfl ?_
  refine ev_eqi (dI.2.1.trans hn) ?_
  show Ev X k_X3_addRow (17, [some (vr 122), some (vl x), none], [vi (n : Int), vr 123]) (MS I J cc ss) _
  refine ev_n (fr' := (18, [some (vr 122), some (vl x), none], [vl x, vi (n : Int), vr 123])) (S' := MS I J cc ss) 1 rfl ?_
  refine ev_lasN (j := n) rfl rfl (by omega) (by omega) ?_
  show Ev X k_X3_addRow (19, [some (vr 122), some (vl x), none], []) (MS I (up2 J 123 n x) cc ss) _
  refine ev_n (fr' := (27, [some (vr 122), some (vl x), none], [vi (I 122 4), vr 124])) (S' := MS I (up2 J 123 n x) cc ss) 4 rfl ?_
  refine ev_eqi (dI.2.1.trans hn) ?_
  show Ev X k_X3_addRow (27, [some (vr 122), some (vl x), none], [vi (n : Int), vr 124]) (MS I (up2 J 123 n x) cc ss) _
  refine ev_n (fr' := (28, [some (vr 122), some (vl x), none], [vi 0, vi (n : Int), vr 124])) (S' := MS I (up2 J 123 n x) cc ss) 1 rfl ?_
  refine ev_iasN (j := n) rfl rfl (by omega) (by omega) ?_
  show Ev X k_X3_addRow (29, [some (vr 122), some (vl x), none], []) (MS (up2 I 124 n 0) (up2 J 123 n x) cc ss) _
  refine ev_n (fr' := (34, [some (vr 122), some (vl x), none], [vi (I 122 4), vr 122])) (S' := MS (up2 I 124 n 0) (up2 J 123 n x) cc ss) 3 rfl ?_
  refine ev_eqi (dI.2.1.trans hn) ?_
  show Ev X k_X3_addRow (34, [some (vr 122), some (vl x), none], [vi (n : Int), vr 122]) (MS (up2 I 124 n 0) (up2 J 123 n x) cc ss) _
  refine ev_n (fr' := (35, [some (vr 122), some (vl x), none], [vi 1, vi (n : Int), vr 122])) (S' := MS (up2 I 124 n 0) (up2 J 123 n x) cc ss) 1 rfl ?_
  refine ev_add (z := (n : Int) + 1) rfl (by omega) (by omega) (by omega) ?_
  show Ev X k_X3_addRow (36, [some (vr 122), some (vl x), none], [vi ((n : Int) + 1), vr 122]) (MS (up2 I 124 n 0) (up2 J 123 n x) cc ss) _
  refine ev_n (fr' := (39, [some (vr 122), some (vl x), none], [])) (S' := MS (up2 (up2 I 124 n 0) 122 4 ((n : Int) + 1)) (up2 J 123 n x) cc ss) 1 rfl ?_
  refine ev_n (fr' := (44, [some (vr 122), some (vl x), none], [vi 1, vi ((n : Int) + 1)])) (S' := MS (up2 (up2 I 124 n 0) 122 4 ((n : Int) + 1)) (up2 J 123 n x) cc ss) 3 rfl ?_
  refine ev_sub (z := (n : Int)) rfl (by omega) (by omega) (by omega) ?_
  show Ev X k_X3_addRow (45, [some (vr 122), some (vl x), none], [vi (n : Int)]) (MS (up2 (up2 I 124 n 0) 122 4 ((n : Int) + 1)) (up2 J 123 n x) cc ss) _
  refine ev_r rfl rfl rfl ?_
  exact ⟨congrArg (fun z => Sum.inl (some (vi z))) (by omega), rfl⟩
theorem sp_clr_s (X : AX) (I J : Nat → Nat → Int) (cc ss : Nat) : Ev X k_X5_clear (0, [some (vr 115)], []) (MS I J cc ss) (fun o T => o = .inl none ∧ T = MS (up2 I 115 2 0) J cc ss) := by
  refine ev_n (fr' := (2, [some (vr 115)], [vi 0, vr 115])) (S' := MS I J cc ss) 2 rfl ?_
  refine ev_n (fr' := (5, [some (vr 115)], [])) (S' := MS (up2 I 115 2 0) J cc ss) 1 rfl ?_
  refine ev_r rfl rfl rfl ?_
  exact ⟨rfl, rfl⟩
theorem sp_clr_118 (X : AX) (I J : Nat → Nat → Int) (cc ss : Nat) : Ev X k_X3_clear (0, [some (vr 118)], []) (MS I J cc ss) (fun o T => o = .inl none ∧ T = MS (up2 I 118 4 0) J cc ss) := by
  refine ev_n (fr' := (2, [some (vr 118)], [vi 0, vr 118])) (S' := MS I J cc ss) 2 rfl ?_
  refine ev_n (fr' := (5, [some (vr 118)], [])) (S' := MS (up2 I 118 4 0) J cc ss) 1 rfl ?_
  refine ev_r rfl rfl rfl ?_
  exact ⟨rfl, rfl⟩
theorem sp_clr_122 (X : AX) (I J : Nat → Nat → Int) (cc ss : Nat) : Ev X k_X3_clear (0, [some (vr 122)], []) (MS I J cc ss) (fun o T => o = .inl none ∧ T = MS (up2 I 122 4 0) J cc ss) := by
  refine ev_n (fr' := (2, [some (vr 122)], [vi 0, vr 122])) (S' := MS I J cc ss) 2 rfl ?_
  refine ev_n (fr' := (5, [some (vr 122)], [])) (S' := MS (up2 I 122 4 0) J cc ss) 1 rfl ?_
  refine ev_r rfl rfl rfl ?_
  exact ⟨rfl, rfl⟩
theorem sp_clear (X : AX) (I J : Nat → Nat → Int) (cc ss : Nat) : Ev X k_X2_clear (0, [some (vr 114)], []) (MS I J cc ss) (fun o T => o = .inl none ∧ T = MS (up2 (up2 (up2 I 115 2 0) 118 4 0) 122 4 0) J cc ss) := by
  refine ev_n (fr' := (4, [some (vr 114)], [vr 115])) (S' := MS I J cc ss) 2 rfl ?_
  refine ev_cv rfl rfl rfl ⟨Nat.le_of_ble_eq_true rfl, Nat.le_of_ble_eq_true rfl⟩ (sp_clr_s X _ _ _ _) ?_
  show Ev X k_X2_clear (7, [some (vr 114)], []) (MS (up2 I 115 2 0) J cc ss) _
  refine ev_n (fr' := (11, [some (vr 114)], [vr 118])) (S' := MS (up2 I 115 2 0) J cc ss) 2 rfl ?_
  refine ev_cv rfl rfl rfl ⟨Nat.le_of_ble_eq_true rfl, Nat.le_of_ble_eq_true rfl⟩ (sp_clr_118 X _ _ _ _) ?_
  show Ev X k_X2_clear (14, [some (vr 114)], []) (MS (up2 (up2 I 115 2 0) 118 4 0) J cc ss) _
  refine ev_n (fr' := (18, [some (vr 114)], [vr 122])) (S' := MS (up2 (up2 I 115 2 0) 118 4 0) J cc ss) 2 rfl ?_
  refine ev_cv rfl rfl rfl ⟨Nat.le_of_ble_eq_true rfl, Nat.le_of_ble_eq_true rfl⟩ (sp_clr_122 X _ _ _ _) ?_
  show Ev X k_X2_clear (21, [some (vr 114)], []) (MS (up2 (up2 (up2 I 115 2 0) 118 4 0) 122 4 0) J cc ss) _
  refine ev_r rfl rfl rfl ?_
  exact ⟨rfl, rfl⟩
theorem lp_pshift_136 (X : AX) (I J : Nat → Nat → Int) (cc ss : Nat) {g : F1} (J0 : F2) (n : Nat) (x e : Int) (hg0 : g 0 = (n : Int)) (hn5 : n < 5) (hx : 0 ≤ x ∧ x ≤ 1000) (he : -2 ≤ e ∧ e ≤ 2) (pl : Nat) (hpl : pl ≤ n) (hp1 : ∀ j, j < pl → g (2 * j + 1) < x) (hp2 : pl = n ∨ x ≤ g (2 * pl + 1)) (k : Nat) (hk : 2 * pl ≤ k ∧ k ≤ 2 * n) (hF : ∀ a, a ≠ 136 → J a = J0 a) (hC : ∀ j, j ≤ k ∨ j < 2 * pl + 1 → J 136 j = g j) (hB : ∀ j, k + 2 < j → j < 2 * n + 3 → J 136 j = g (j - 2)) (hD : ∀ j, 2 * n + 3 ≤ j → J 136 j = g j) : Ev X k_X9_putsSize (42, [some (vr 136), some (vi x), some (vi e), some (vi (pl : Int)), some (vi (k : Int))], []) (MS I J cc ss) (PZ cc ss (fun z I' J' => I' = I ∧ (∀ a, a ≠ 136 → J' a = J0 a) ∧ ∃ pl : Nat, z = (pl : Int) ∧ pl ≤ n ∧ (∀ j, j < pl → g (2 * j + 1) < x) ∧ (pl = n ∨ x ≤ g (2 * pl + 1)) ∧ J' 136 = insF g pl n x e)) := by
  refine ev_n (fr' := (47, [some (vr 136), some (vi x), some (vi e), some (vi (pl : Int)), some (vi (k : Int))], [vi (pl : Int), vi 2, vi 1, vi (k : Int)])) (S' := MS I J cc ss) 4 rfl ?_
  refine ev_mul (z := 2 * (pl : Int)) rfl (by omega) (by omega) (by omega) ?_
  show Ev X k_X9_putsSize (48, [some (vr 136), some (vi x), some (vi e), some (vi (pl : Int)), some (vi (k : Int))], [vi (2 * (pl : Int)), vi 1, vi (k : Int)]) (MS I J cc ss) _
  refine ev_add (z := 2 * (pl : Int) + 1) rfl (by omega) (by omega) (by omega) ?_
  show Ev X k_X9_putsSize (49, [some (vr 136), some (vi x), some (vi e), some (vi (pl : Int)), some (vi (k : Int))], [vi (2 * (pl : Int) + 1), vi (k : Int)]) (MS I J cc ss) _
  refine ev_ic (c := .lt) (off := 19) rfl (by decide) (fun (g1 : (k : Int) < 2 * (pl : Int) + 1) => ?_) (fun (g1 : ¬ ((k : Int) < 2 * (pl : Int) + 1)) => ?_)
  · show Ev X k_X9_putsSize (68, [some (vr 136), some (vi x), some (vi e), some (vi (pl : Int)), some (vi (k : Int))], []) (MS I J cc ss) _
    refine ev_n (fr' := (72, [some (vr 136), some (vi x), some (vi e), some (vi (pl : Int)), some (vi (k : Int))], [vi (pl : Int), vi 2, vi 1, vr 136])) (S' := MS I J cc ss) 4 rfl ?_
    refine ev_mul (z := 2 * (pl : Int)) rfl (by omega) (by omega) (by omega) ?_
    show Ev X k_X9_putsSize (73, [some (vr 136), some (vi x), some (vi e), some (vi (pl : Int)), some (vi (k : Int))], [vi (2 * (pl : Int)), vi 1, vr 136]) (MS I J cc ss) _
    refine ev_add (z := 2 * (pl : Int) + 1) rfl (by omega) (by omega) (by omega) ?_
    show Ev X k_X9_putsSize (74, [some (vr 136), some (vi x), some (vi e), some (vi (pl : Int)), some (vi (k : Int))], [vi (2 * (pl : Int) + 1), vr 136]) (MS I J cc ss) _
    refine ev_n (fr' := (76, [some (vr 136), some (vi x), some (vi e), some (vi (pl : Int)), some (vi (k : Int))], [vl x, vi (2 * (pl : Int) + 1), vr 136])) (S' := MS I J cc ss) 2 rfl ?_
    refine ev_lasN (j := 2 * pl + 1) rfl rfl (by omega) (by omega) ?_
    show Ev X k_X9_putsSize (77, [some (vr 136), some (vi x), some (vi e), some (vi (pl : Int)), some (vi (k : Int))], []) (MS I (up2 J 136 (2 * pl + 1) x) cc ss) _
    refine ev_n (fr' := (81, [some (vr 136), some (vi x), some (vi e), some (vi (pl : Int)), some (vi (k : Int))], [vi (pl : Int), vi 2, vi 1, vr 136])) (S' := MS I (up2 J 136 (2 * pl + 1) x) cc ss) 4 rfl ?_
    refine ev_mul (z := 2 * (pl : Int)) rfl (by omega) (by omega) (by omega) ?_
    show Ev X k_X9_putsSize (82, [some (vr 136), some (vi x), some (vi e), some (vi (pl : Int)), some (vi (k : Int))], [vi (2 * (pl : Int)), vi 1, vr 136]) (MS I (up2 J 136 (2 * pl + 1) x) cc ss) _
    refine ev_add (z := 2 * (pl : Int) + 1) rfl (by omega) (by omega) (by omega) ?_
    show Ev X k_X9_putsSize (83, [some (vr 136), some (vi x), some (vi e), some (vi (pl : Int)), some (vi (k : Int))], [vi (2 * (pl : Int) + 1), vr 136]) (MS I (up2 J 136 (2 * pl + 1) x) cc ss) _
    refine ev_n (fr' := (84, [some (vr 136), some (vi x), some (vi e), some (vi (pl : Int)), some (vi (k : Int))], [vi 1, vi (2 * (pl : Int) + 1), vr 136])) (S' := MS I (up2 J 136 (2 * pl + 1) x) cc ss) 1 rfl ?_
    refine ev_add (z := 2 * (pl : Int) + 2) rfl (by omega) (by omega) (by omega) ?_
    show Ev X k_X9_putsSize (85, [some (vr 136), some (vi x), some (vi e), some (vi (pl : Int)), some (vi (k : Int))], [vi (2 * (pl : Int) + 2), vr 136]) (MS I (up2 J 136 (2 * pl + 1) x) cc ss) _
    refine ev_n (fr' := (87, [some (vr 136), some (vi x), some (vi e), some (vi (pl : Int)), some (vi (k : Int))], [vl e, vi (2 * (pl : Int) + 2), vr 136])) (S' := MS I (up2 J 136 (2 * pl + 1) x) cc ss) 2 rfl ?_
    refine ev_lasN (j := 2 * pl + 2) rfl rfl (by omega) (by omega) ?_
    show Ev X k_X9_putsSize (88, [some (vr 136), some (vi x), some (vi e), some (vi (pl : Int)), some (vi (k : Int))], []) (MS I (up2 (up2 J 136 (2 * pl + 1) x) 136 (2 * pl + 2) e) cc ss) _
    refine ev_n (fr' := (91, [some (vr 136), some (vi x), some (vi e), some (vi (pl : Int)), some (vi (k : Int))], [vi 0, vr 136, vi 0, vr 136])) (S' := MS I (up2 (up2 J 136 (2 * pl + 1) x) 136 (2 * pl + 2) e) cc ss) 3 rfl ?_
    refine ev_laN (j := 0) (z := (n : Int)) rfl rfl (by omega) (by omega) (show J 136 0 = (n : Int) from (hC 0 (by omega)).trans hg0) ?_
    show Ev X k_X9_putsSize (92, [some (vr 136), some (vi x), some (vi e), some (vi (pl : Int)), some (vi (k : Int))], [vl (n : Int), vi 0, vr 136]) (MS I (up2 (up2 J 136 (2 * pl + 1) x) 136 (2 * pl + 2) e) cc ss) _
    refine ev_n (fr' := (93, [some (vr 136), some (vi x), some (vi e), some (vi (pl : Int)), some (vi (k : Int))], [vl 1, vl (n : Int), vi 0, vr 136])) (S' := MS I (up2 (up2 J 136 (2 * pl + 1) x) 136 (2 * pl + 2) e) cc ss) 1 rfl ?_
    refine ev_ladd (z := (n : Int) + 1) rfl (by omega) (by omega) (by omega) ?_
    show Ev X k_X9_putsSize (94, [some (vr 136), some (vi x), some (vi e), some (vi (pl : Int)), some (vi (k : Int))], [vl ((n : Int) + 1), vi 0, vr 136]) (MS I (up2 (up2 J 136 (2 * pl + 1) x) 136 (2 * pl + 2) e) cc ss) _
    refine ev_lasN (j := 0) rfl rfl (by omega) (by omega) ?_
    show Ev X k_X9_putsSize (95, [some (vr 136), some (vi x), some (vi e), some (vi (pl : Int)), some (vi (k : Int))], []) (MS I (up2 (up2 (up2 J 136 (2 * pl + 1) x) 136 (2 * pl + 2) e) 136 0 ((n : Int) + 1)) cc ss) _
    refine ev_n (fr' := (96, [some (vr 136), some (vi x), some (vi e), some (vi (pl : Int)), some (vi (k : Int))], [vi (pl : Int)])) (S' := MS I (up2 (up2 (up2 J 136 (2 * pl + 1) x) 136 (2 * pl + 2) e) 136 0 ((n : Int) + 1)) cc ss) 1 rfl ?_
    refine ev_r rfl rfl rfl ?_
    refine ⟨_, _, _, rfl, rfl, rfl, fun a ha => by rw [up2_row _ _ _ _ ha, up2_row _ _ _ _ ha, up2_row _ _ _ _ ha]; exact hF a ha, pl, rfl, hpl, hp1, hp2, ?_⟩
    funext j
    unfold insF
    by_cases e0 : j = 0
    · rw [if_pos e0, e0, up2_same]
    rw [if_neg e0, up2_ne2 _ _ _ _ e0]
    by_cases e1 : j = 2 * pl + 1
    · rw [if_pos e1, e1, up2_ne2 _ _ _ _ (by omega), up2_same]
    rw [if_neg e1]
    by_cases e2 : j = 2 * pl + 2
    · rw [if_pos e2, e2, up2_same]
    rw [if_neg e2, up2_ne2 _ _ _ _ e2, up2_ne2 _ _ _ _ e1]
    by_cases e3 : 2 * pl + 3 ≤ j ∧ j < 2 * n + 3
    · rw [if_pos e3]; exact hB j (by omega) (by omega)
    · rw [if_neg e3]
      by_cases e4 : j < 2 * pl + 1
      · exact hC j (by omega)
      · exact hD j (by omega)
  · show Ev X k_X9_putsSize (52, [some (vr 136), some (vi x), some (vi e), some (vi (pl : Int)), some (vi (k : Int))], []) (MS I J cc ss) _
    refine ev_n (fr' := (56, [some (vr 136), some (vi x), some (vi e), some (vi (pl : Int)), some (vi (k : Int))], [vi 2, vi (k : Int), vr 136])) (S' := MS I J cc ss) 3 rfl ?_
    refine ev_add (z := (k : Int) + 2) rfl (by omega) (by omega) (by omega) ?_
    show Ev X k_X9_putsSize (57, [some (vr 136), some (vi x), some (vi e), some (vi (pl : Int)), some (vi (k : Int))], [vi ((k : Int) + 2), vr 136]) (MS I J cc ss) _
    refine ev_n (fr' := (60, [some (vr 136), some (vi x), some (vi e), some (vi (pl : Int)), some (vi (k : Int))], [vi (k : Int), vr 136, vi ((k : Int) + 2), vr 136])) (S' := MS I J cc ss) 2 rfl ?_
    refine ev_laN (j := k) (z := (g k)) rfl rfl (by omega) (by omega) (hC k (by omega)) ?_
    show Ev X k_X9_putsSize (61, [some (vr 136), some (vi x), some (vi e), some (vi (pl : Int)), some (vi (k : Int))], [vl (g k), vi ((k : Int) + 2), vr 136]) (MS I J cc ss) _
    refine ev_lasN (j := k + 2) rfl rfl (by omega) (by omega) ?_
    show Ev X k_X9_putsSize (62, [some (vr 136), some (vi x), some (vi e), some (vi (pl : Int)), some (vi (k : Int))], []) (MS I (up2 J 136 (k + 2) (g k)) cc ss) _
    refine ev_inc (z := (k : Int) - 1) rfl rfl (by omega) (by omega) (by omega) rfl ?_
    show Ev X k_X9_putsSize (65, [some (vr 136), some (vi x), some (vi e), some (vi (pl : Int)), some (vi ((k : Int) - 1))], []) (MS I (up2 J 136 (k + 2) (g k)) cc ss) _
    refine ev_n (fr' := (42, [some (vr 136), some (vi x), some (vi e), some (vi (pl : Int)), some (vi ((k : Int) - 1))], [])) (S' := MS I (up2 J 136 (k + 2) (g k)) cc ss) 1 rfl ?_
    rw [show (k : Int) - 1 = ((k - 1 : Nat) : Int) by omega]
    refine lp_pshift_136 X I _ cc ss J0 n x e hg0 hn5 hx he pl hpl hp1 hp2 (k - 1) (by omega) (fun a ha => by rw [up2_row _ _ _ _ ha]; exact hF a ha) (fun j hj => ?_) (fun j h1 h2 => ?_) (fun j h1 => ?_)
    · rw [up2_ne2 _ _ _ _ (by omega)]; exact hC j (by omega)
    · by_cases e1 : j = k + 2
      · rw [e1, up2_same]; rfl
      · rw [up2_ne2 _ _ _ _ e1]; exact hB j (by omega) h2
    · rw [up2_ne2 _ _ _ _ (by omega)]; exact hD j h1
termination_by k
decreasing_by all_goals omega
theorem lp_pfind_136 (X : AX) (I J : Nat → Nat → Int) (cc ss : Nat) {g : F1} (hg : J 136 = g) (n : Nat) (x e : Int) (hg0 : g 0 = (n : Int)) (hn5 : n < 5) (hx : 0 ≤ x ∧ x ≤ 1000) (he : -2 ≤ e ∧ e ≤ 2) (hlo : ∀ k : Nat, 0 ≤ g (2 * k + 1) ∨ True) (pl : Nat) (hpl : pl ≤ n) (hp1 : ∀ j, j < pl → g (2 * j + 1) < x) : Ev X k_X9_putsSize (2, [some (vr 136), some (vi x), some (vi e), some (vi (pl : Int)), none], []) (MS I J cc ss) (PZ cc ss (fun z I' J' => I' = I ∧ (∀ a, a ≠ 136 → J' a = J a) ∧ ∃ pl : Nat, z = (pl : Int) ∧ pl ≤ n ∧ (∀ j, j < pl → g (2 * j + 1) < x) ∧ (pl = n ∨ x ≤ g (2 * pl + 1)) ∧ J' 136 = insF g pl n x e)) := by
  refine ev_n (fr' := (6, [some (vr 136), some (vi x), some (vi e), some (vi (pl : Int)), none], [vi 0, vr 136, vl (pl : Int)])) (S' := MS I J cc ss) 4 rfl ?_
  refine ev_laN (j := 0) (z := (n : Int)) rfl rfl (by omega) (by omega) ((congrFun hg 0).trans hg0) ?_
  show Ev X k_X9_putsSize (7, [some (vr 136), some (vi x), some (vi e), some (vi (pl : Int)), none], [vl (n : Int), vl (pl : Int)]) (MS I J cc ss) _
  refine ev_lc (c := .ge) (off := 22) rfl rfl (by decide) (fun (g1 : (n : Int) ≤ (pl : Int)) => ?_) (fun (g1 : ¬ ((n : Int) ≤ (pl : Int))) => ?_)
  · show Ev X k_X9_putsSize (30, [some (vr 136), some (vi x), some (vi e), some (vi (pl : Int)), none], []) (MS I J cc ss) _
    refine ev_n (fr' := (34, [some (vr 136), some (vi x), some (vi e), some (vi (pl : Int)), none], [vi 0, vr 136, vi 2, vi 1])) (S' := MS I J cc ss) 4 rfl ?_
    refine ev_laN (j := 0) (z := (n : Int)) rfl rfl (by omega) (by omega) ((congrFun hg 0).trans hg0) ?_
    show Ev X k_X9_putsSize (35, [some (vr 136), some (vi x), some (vi e), some (vi (pl : Int)), none], [vl (n : Int), vi 2, vi 1]) (MS I J cc ss) _
    refine ev_l2i rfl (by omega) (by omega) ?_
    show Ev X k_X9_putsSize (36, [some (vr 136), some (vi x), some (vi e), some (vi (pl : Int)), none], [vi (n : Int), vi 2, vi 1]) (MS I J cc ss) _
    refine ev_mul (z := 2 * (n : Int)) rfl (by omega) (by omega) (by omega) ?_
    show Ev X k_X9_putsSize (37, [some (vr 136), some (vi x), some (vi e), some (vi (pl : Int)), none], [vi (2 * (n : Int)), vi 1]) (MS I J cc ss) _
    refine ev_add (z := 2 * (n : Int) + 1) rfl (by omega) (by omega) (by omega) ?_
    show Ev X k_X9_putsSize (38, [some (vr 136), some (vi x), some (vi e), some (vi (pl : Int)), none], [vi (2 * (n : Int) + 1)]) (MS I J cc ss) _
    refine ev_n (fr' := (39, [some (vr 136), some (vi x), some (vi e), some (vi (pl : Int)), none], [vi 1, vi (2 * (n : Int) + 1)])) (S' := MS I J cc ss) 1 rfl ?_
    refine ev_sub (z := 2 * (n : Int)) rfl (by omega) (by omega) (by omega) ?_
    show Ev X k_X9_putsSize (40, [some (vr 136), some (vi x), some (vi e), some (vi (pl : Int)), none], [vi (2 * (n : Int))]) (MS I J cc ss) _
    refine ev_n (fr' := (42, [some (vr 136), some (vi x), some (vi e), some (vi (pl : Int)), some (vi (2 * (n : Int)))], [])) (S' := MS I J cc ss) 1 rfl ?_
    exact lp_pshift_136 X I J cc ss J n x e hg0 hn5 hx he pl hpl hp1 (by omega) (2 * n) (by omega) (fun _ _ => rfl) (fun j _ => congrFun hg j) (fun j h1 h2 => absurd h1 (by omega)) (fun j _ => congrFun hg j)
  · show Ev X k_X9_putsSize (11, [some (vr 136), some (vi x), some (vi e), some (vi (pl : Int)), none], []) (MS I J cc ss) _
    refine ev_n (fr' := (15, [some (vr 136), some (vi x), some (vi e), some (vi (pl : Int)), none], [vi (pl : Int), vi 2, vi 1, vr 136])) (S' := MS I J cc ss) 4 rfl ?_
    refine ev_mul (z := 2 * (pl : Int)) rfl (by omega) (by omega) (by omega) ?_
    show Ev X k_X9_putsSize (16, [some (vr 136), some (vi x), some (vi e), some (vi (pl : Int)), none], [vi (2 * (pl : Int)), vi 1, vr 136]) (MS I J cc ss) _
    refine ev_add (z := 2 * (pl : Int) + 1) rfl (by omega) (by omega) (by omega) ?_
    show Ev X k_X9_putsSize (17, [some (vr 136), some (vi x), some (vi e), some (vi (pl : Int)), none], [vi (2 * (pl : Int) + 1), vr 136]) (MS I J cc ss) _
    refine ev_laN (j := 2 * pl + 1) (z := (g (2 * pl + 1))) rfl rfl (by omega) (by omega) (congrFun hg _) ?_
    show Ev X k_X9_putsSize (18, [some (vr 136), some (vi x), some (vi e), some (vi (pl : Int)), none], [vl (g (2 * pl + 1))]) (MS I J cc ss) _
    refine ev_n (fr' := (20, [some (vr 136), some (vi x), some (vi e), some (vi (pl : Int)), none], [vl x, vl (g (2 * pl + 1))])) (S' := MS I J cc ss) 2 rfl ?_
    refine ev_lc (c := .ge) (off := 9) rfl rfl (by decide) (fun (g2 : x ≤ (g (2 * pl + 1))) => ?_) (fun (g2 : ¬ (x ≤ (g (2 * pl + 1)))) => ?_)
    · show Ev X k_X9_putsSize (30, [some (vr 136), some (vi x), some (vi e), some (vi (pl : Int)), none], []) (MS I J cc ss) _
      refine ev_n (fr' := (34, [some (vr 136), some (vi x), some (vi e), some (vi (pl : Int)), none], [vi 0, vr 136, vi 2, vi 1])) (S' := MS I J cc ss) 4 rfl ?_
      refine ev_laN (j := 0) (z := (n : Int)) rfl rfl (by omega) (by omega) ((congrFun hg 0).trans hg0) ?_
      show Ev X k_X9_putsSize (35, [some (vr 136), some (vi x), some (vi e), some (vi (pl : Int)), none], [vl (n : Int), vi 2, vi 1]) (MS I J cc ss) _
      refine ev_l2i rfl (by omega) (by omega) ?_
      show Ev X k_X9_putsSize (36, [some (vr 136), some (vi x), some (vi e), some (vi (pl : Int)), none], [vi (n : Int), vi 2, vi 1]) (MS I J cc ss) _
      refine ev_mul (z := 2 * (n : Int)) rfl (by omega) (by omega) (by omega) ?_
      show Ev X k_X9_putsSize (37, [some (vr 136), some (vi x), some (vi e), some (vi (pl : Int)), none], [vi (2 * (n : Int)), vi 1]) (MS I J cc ss) _
      refine ev_add (z := 2 * (n : Int) + 1) rfl (by omega) (by omega) (by omega) ?_
      show Ev X k_X9_putsSize (38, [some (vr 136), some (vi x), some (vi e), some (vi (pl : Int)), none], [vi (2 * (n : Int) + 1)]) (MS I J cc ss) _
      refine ev_n (fr' := (39, [some (vr 136), some (vi x), some (vi e), some (vi (pl : Int)), none], [vi 1, vi (2 * (n : Int) + 1)])) (S' := MS I J cc ss) 1 rfl ?_
      refine ev_sub (z := 2 * (n : Int)) rfl (by omega) (by omega) (by omega) ?_
      show Ev X k_X9_putsSize (40, [some (vr 136), some (vi x), some (vi e), some (vi (pl : Int)), none], [vi (2 * (n : Int))]) (MS I J cc ss) _
      refine ev_n (fr' := (42, [some (vr 136), some (vi x), some (vi e), some (vi (pl : Int)), some (vi (2 * (n : Int)))], [])) (S' := MS I J cc ss) 1 rfl ?_
      exact lp_pshift_136 X I J cc ss J n x e hg0 hn5 hx he pl hpl hp1 (by omega) (2 * n) (by omega) (fun _ _ => rfl) (fun j _ => congrFun hg j) (fun j h1 h2 => absurd h1 (by omega)) (fun j _ => congrFun hg j)
    · show Ev X k_X9_putsSize (24, [some (vr 136), some (vi x), some (vi e), some (vi (pl : Int)), none], []) (MS I J cc ss) _
      refine ev_inc (z := (pl : Int) + 1) rfl rfl (by omega) (by omega) (by omega) rfl ?_
      show Ev X k_X9_putsSize (27, [some (vr 136), some (vi x), some (vi e), some (vi ((pl : Int) + 1)), none], []) (MS I J cc ss) _
      refine ev_n (fr' := (2, [some (vr 136), some (vi x), some (vi e), some (vi ((pl : Int) + 1)), none], [])) (S' := MS I J cc ss) 1 rfl ?_
      exact lp_pfind_136 X I J cc ss hg n x e hg0 hn5 hx he hlo (pl + 1) (by omega) (nlt_succ hp1 (by omega))
termination_by 6 - pl
decreasing_by all_goals omega
theorem sp_putsSize_136 (X : AX) (I J : Nat → Nat → Int) (cc ss : Nat) {g : F1} (hg : J 136 = g) (n : Nat) (x e : Int) (hg0 : g 0 = (n : Int)) (hn5 : n < 5) (hx : 0 ≤ x ∧ x ≤ 1000) (he : -2 ≤ e ∧ e ≤ 2) : Ev X k_X9_putsSize (0, [some (vr 136), some (vi x), some (vi e), none, none], []) (MS I J cc ss) (PZ cc ss (fun z I' J' => I' = I ∧ (∀ a, a ≠ 136 → J' a = J a) ∧ ∃ pl : Nat, z = (pl : Int) ∧ pl ≤ n ∧ (∀ j, j < pl → g (2 * j + 1) < x) ∧ (pl = n ∨ x ≤ g (2 * pl + 1)) ∧ J' 136 = insF g pl n x e)) := by
  refine ev_n (fr' := (2, [some (vr 136), some (vi x), some (vi e), some (vi 0), none], [])) (S' := MS I J cc ss) 2 rfl ?_
  exact lp_pfind_136 X I J cc ss hg n x e hg0 hn5 hx he (fun _ => Or.inr trivial) 0 (by omega) (fun j h => absurd h (by omega))
theorem lp_pshift_137 (X : AX) (I J : Nat → Nat → Int) (cc ss : Nat) {g : F1} (J0 : F2) (n : Nat) (x e : Int) (hg0 : g 0 = (n : Int)) (hn5 : n < 5) (hx : 0 ≤ x ∧ x ≤ 1000) (he : -2 ≤ e ∧ e ≤ 2) (pl : Nat) (hpl : pl ≤ n) (hp1 : ∀ j, j < pl → g (2 * j + 1) < x) (hp2 : pl = n ∨ x ≤ g (2 * pl + 1)) (k : Nat) (hk : 2 * pl ≤ k ∧ k ≤ 2 * n) (hF : ∀ a, a ≠ 137 → J a = J0 a) (hC : ∀ j, j ≤ k ∨ j < 2 * pl + 1 → J 137 j = g j) (hB : ∀ j, k + 2 < j → j < 2 * n + 3 → J 137 j = g (j - 2)) (hD : ∀ j, 2 * n + 3 ≤ j → J 137 j = g j) : Ev X k_X9_putsSize (42, [some (vr 137), some (vi x), some (vi e), some (vi (pl : Int)), some (vi (k : Int))], []) (MS I J cc ss) (PZ cc ss (fun z I' J' => I' = I ∧ (∀ a, a ≠ 137 → J' a = J0 a) ∧ ∃ pl : Nat, z = (pl : Int) ∧ pl ≤ n ∧ (∀ j, j < pl → g (2 * j + 1) < x) ∧ (pl = n ∨ x ≤ g (2 * pl + 1)) ∧ J' 137 = insF g pl n x e)) := by
  refine ev_n (fr' := (47, [some (vr 137), some (vi x), some (vi e), some (vi (pl : Int)), some (vi (k : Int))], [vi (pl : Int), vi 2, vi 1, vi (k : Int)])) (S' := MS I J cc ss) 4 rfl ?_
  refine ev_mul (z := 2 * (pl : Int)) rfl (by omega) (by omega) (by omega) ?_
  show Ev X k_X9_putsSize (48, [some (vr 137), some (vi x), some (vi e), some (vi (pl : Int)), some (vi (k : Int))], [vi (2 * (pl : Int)), vi 1, vi (k : Int)]) (MS I J cc ss) _
  refine ev_add (z := 2 * (pl : Int) + 1) rfl (by omega) (by omega) (by omega) ?_
  show Ev X k_X9_putsSize (49, [some (vr 137), some (vi x), some (vi e), some (vi (pl : Int)), some (vi (k : Int))], [vi (2 * (pl : Int) + 1), vi (k : Int)]) (MS I J cc ss) _
  refine ev_ic (c := .lt) (off := 19) rfl (by decide) (fun (g1 : (k : Int) < 2 * (pl : Int) + 1) => ?_) (fun (g1 : ¬ ((k : Int) < 2 * (pl : Int) + 1)) => ?_)
  · show Ev X k_X9_putsSize (68, [some (vr 137), some (vi x), some (vi e), some (vi (pl : Int)), some (vi (k : Int))], []) (MS I J cc ss) _
    refine ev_n (fr' := (72, [some (vr 137), some (vi x), some (vi e), some (vi (pl : Int)), some (vi (k : Int))], [vi (pl : Int), vi 2, vi 1, vr 137])) (S' := MS I J cc ss) 4 rfl ?_
    refine ev_mul (z := 2 * (pl : Int)) rfl (by omega) (by omega) (by omega) ?_
    show Ev X k_X9_putsSize (73, [some (vr 137), some (vi x), some (vi e), some (vi (pl : Int)), some (vi (k : Int))], [vi (2 * (pl : Int)), vi 1, vr 137]) (MS I J cc ss) _
    refine ev_add (z := 2 * (pl : Int) + 1) rfl (by omega) (by omega) (by omega) ?_
    show Ev X k_X9_putsSize (74, [some (vr 137), some (vi x), some (vi e), some (vi (pl : Int)), some (vi (k : Int))], [vi (2 * (pl : Int) + 1), vr 137]) (MS I J cc ss) _
    refine ev_n (fr' := (76, [some (vr 137), some (vi x), some (vi e), some (vi (pl : Int)), some (vi (k : Int))], [vl x, vi (2 * (pl : Int) + 1), vr 137])) (S' := MS I J cc ss) 2 rfl ?_
    refine ev_lasN (j := 2 * pl + 1) rfl rfl (by omega) (by omega) ?_
    show Ev X k_X9_putsSize (77, [some (vr 137), some (vi x), some (vi e), some (vi (pl : Int)), some (vi (k : Int))], []) (MS I (up2 J 137 (2 * pl + 1) x) cc ss) _
    refine ev_n (fr' := (81, [some (vr 137), some (vi x), some (vi e), some (vi (pl : Int)), some (vi (k : Int))], [vi (pl : Int), vi 2, vi 1, vr 137])) (S' := MS I (up2 J 137 (2 * pl + 1) x) cc ss) 4 rfl ?_
    refine ev_mul (z := 2 * (pl : Int)) rfl (by omega) (by omega) (by omega) ?_
    show Ev X k_X9_putsSize (82, [some (vr 137), some (vi x), some (vi e), some (vi (pl : Int)), some (vi (k : Int))], [vi (2 * (pl : Int)), vi 1, vr 137]) (MS I (up2 J 137 (2 * pl + 1) x) cc ss) _
    refine ev_add (z := 2 * (pl : Int) + 1) rfl (by omega) (by omega) (by omega) ?_
    show Ev X k_X9_putsSize (83, [some (vr 137), some (vi x), some (vi e), some (vi (pl : Int)), some (vi (k : Int))], [vi (2 * (pl : Int) + 1), vr 137]) (MS I (up2 J 137 (2 * pl + 1) x) cc ss) _
    refine ev_n (fr' := (84, [some (vr 137), some (vi x), some (vi e), some (vi (pl : Int)), some (vi (k : Int))], [vi 1, vi (2 * (pl : Int) + 1), vr 137])) (S' := MS I (up2 J 137 (2 * pl + 1) x) cc ss) 1 rfl ?_
    refine ev_add (z := 2 * (pl : Int) + 2) rfl (by omega) (by omega) (by omega) ?_
    show Ev X k_X9_putsSize (85, [some (vr 137), some (vi x), some (vi e), some (vi (pl : Int)), some (vi (k : Int))], [vi (2 * (pl : Int) + 2), vr 137]) (MS I (up2 J 137 (2 * pl + 1) x) cc ss) _
    refine ev_n (fr' := (87, [some (vr 137), some (vi x), some (vi e), some (vi (pl : Int)), some (vi (k : Int))], [vl e, vi (2 * (pl : Int) + 2), vr 137])) (S' := MS I (up2 J 137 (2 * pl + 1) x) cc ss) 2 rfl ?_
    refine ev_lasN (j := 2 * pl + 2) rfl rfl (by omega) (by omega) ?_
    show Ev X k_X9_putsSize (88, [some (vr 137), some (vi x), some (vi e), some (vi (pl : Int)), some (vi (k : Int))], []) (MS I (up2 (up2 J 137 (2 * pl + 1) x) 137 (2 * pl + 2) e) cc ss) _
    refine ev_n (fr' := (91, [some (vr 137), some (vi x), some (vi e), some (vi (pl : Int)), some (vi (k : Int))], [vi 0, vr 137, vi 0, vr 137])) (S' := MS I (up2 (up2 J 137 (2 * pl + 1) x) 137 (2 * pl + 2) e) cc ss) 3 rfl ?_
    refine ev_laN (j := 0) (z := (n : Int)) rfl rfl (by omega) (by omega) (show J 137 0 = (n : Int) from (hC 0 (by omega)).trans hg0) ?_
    show Ev X k_X9_putsSize (92, [some (vr 137), some (vi x), some (vi e), some (vi (pl : Int)), some (vi (k : Int))], [vl (n : Int), vi 0, vr 137]) (MS I (up2 (up2 J 137 (2 * pl + 1) x) 137 (2 * pl + 2) e) cc ss) _
    refine ev_n (fr' := (93, [some (vr 137), some (vi x), some (vi e), some (vi (pl : Int)), some (vi (k : Int))], [vl 1, vl (n : Int), vi 0, vr 137])) (S' := MS I (up2 (up2 J 137 (2 * pl + 1) x) 137 (2 * pl + 2) e) cc ss) 1 rfl ?_
    refine ev_ladd (z := (n : Int) + 1) rfl (by omega) (by omega) (by omega) ?_
    show Ev X k_X9_putsSize (94, [some (vr 137), some (vi x), some (vi e), some (vi (pl : Int)), some (vi (k : Int))], [vl ((n : Int) + 1), vi 0, vr 137]) (MS I (up2 (up2 J 137 (2 * pl + 1) x) 137 (2 * pl + 2) e) cc ss) _
    refine ev_lasN (j := 0) rfl rfl (by omega) (by omega) ?_
    show Ev X k_X9_putsSize (95, [some (vr 137), some (vi x), some (vi e), some (vi (pl : Int)), some (vi (k : Int))], []) (MS I (up2 (up2 (up2 J 137 (2 * pl + 1) x) 137 (2 * pl + 2) e) 137 0 ((n : Int) + 1)) cc ss) _
    refine ev_n (fr' := (96, [some (vr 137), some (vi x), some (vi e), some (vi (pl : Int)), some (vi (k : Int))], [vi (pl : Int)])) (S' := MS I (up2 (up2 (up2 J 137 (2 * pl + 1) x) 137 (2 * pl + 2) e) 137 0 ((n : Int) + 1)) cc ss) 1 rfl ?_
    refine ev_r rfl rfl rfl ?_
    refine ⟨_, _, _, rfl, rfl, rfl, fun a ha => by rw [up2_row _ _ _ _ ha, up2_row _ _ _ _ ha, up2_row _ _ _ _ ha]; exact hF a ha, pl, rfl, hpl, hp1, hp2, ?_⟩
    funext j
    unfold insF
    by_cases e0 : j = 0
    · rw [if_pos e0, e0, up2_same]
    rw [if_neg e0, up2_ne2 _ _ _ _ e0]
    by_cases e1 : j = 2 * pl + 1
    · rw [if_pos e1, e1, up2_ne2 _ _ _ _ (by omega), up2_same]
    rw [if_neg e1]
    by_cases e2 : j = 2 * pl + 2
    · rw [if_pos e2, e2, up2_same]
    rw [if_neg e2, up2_ne2 _ _ _ _ e2, up2_ne2 _ _ _ _ e1]
    by_cases e3 : 2 * pl + 3 ≤ j ∧ j < 2 * n + 3
    · rw [if_pos e3]; exact hB j (by omega) (by omega)
    · rw [if_neg e3]
      by_cases e4 : j < 2 * pl + 1
      · exact hC j (by omega)
      · exact hD j (by omega)
  · show Ev X k_X9_putsSize (52, [some (vr 137), some (vi x), some (vi e), some (vi (pl : Int)), some (vi (k : Int))], []) (MS I J cc ss) _
    refine ev_n (fr' := (56, [some (vr 137), some (vi x), some (vi e), some (vi (pl : Int)), some (vi (k : Int))], [vi 2, vi (k : Int), vr 137])) (S' := MS I J cc ss) 3 rfl ?_
    refine ev_add (z := (k : Int) + 2) rfl (by omega) (by omega) (by omega) ?_
    show Ev X k_X9_putsSize (57, [some (vr 137), some (vi x), some (vi e), some (vi (pl : Int)), some (vi (k : Int))], [vi ((k : Int) + 2), vr 137]) (MS I J cc ss) _
    refine ev_n (fr' := (60, [some (vr 137), some (vi x), some (vi e), some (vi (pl : Int)), some (vi (k : Int))], [vi (k : Int), vr 137, vi ((k : Int) + 2), vr 137])) (S' := MS I J cc ss) 2 rfl ?_
    refine ev_laN (j := k) (z := (g k)) rfl rfl (by omega) (by omega) (hC k (by omega)) ?_
    show Ev X k_X9_putsSize (61, [some (vr 137), some (vi x), some (vi e), some (vi (pl : Int)), some (vi (k : Int))], [vl (g k), vi ((k : Int) + 2), vr 137]) (MS I J cc ss) _
    refine ev_lasN (j := k + 2) rfl rfl (by omega) (by omega) ?_
    show Ev X k_X9_putsSize (62, [some (vr 137), some (vi x), some (vi e), some (vi (pl : Int)), some (vi (k : Int))], []) (MS I (up2 J 137 (k + 2) (g k)) cc ss) _
    refine ev_inc (z := (k : Int) - 1) rfl rfl (by omega) (by omega) (by omega) rfl ?_
    show Ev X k_X9_putsSize (65, [some (vr 137), some (vi x), some (vi e), some (vi (pl : Int)), some (vi ((k : Int) - 1))], []) (MS I (up2 J 137 (k + 2) (g k)) cc ss) _
    refine ev_n (fr' := (42, [some (vr 137), some (vi x), some (vi e), some (vi (pl : Int)), some (vi ((k : Int) - 1))], [])) (S' := MS I (up2 J 137 (k + 2) (g k)) cc ss) 1 rfl ?_
    rw [show (k : Int) - 1 = ((k - 1 : Nat) : Int) by omega]
    refine lp_pshift_137 X I _ cc ss J0 n x e hg0 hn5 hx he pl hpl hp1 hp2 (k - 1) (by omega) (fun a ha => by rw [up2_row _ _ _ _ ha]; exact hF a ha) (fun j hj => ?_) (fun j h1 h2 => ?_) (fun j h1 => ?_)
    · rw [up2_ne2 _ _ _ _ (by omega)]; exact hC j (by omega)
    · by_cases e1 : j = k + 2
      · rw [e1, up2_same]; rfl
      · rw [up2_ne2 _ _ _ _ e1]; exact hB j (by omega) h2
    · rw [up2_ne2 _ _ _ _ (by omega)]; exact hD j h1
termination_by k
decreasing_by all_goals omega
theorem lp_pfind_137 (X : AX) (I J : Nat → Nat → Int) (cc ss : Nat) {g : F1} (hg : J 137 = g) (n : Nat) (x e : Int) (hg0 : g 0 = (n : Int)) (hn5 : n < 5) (hx : 0 ≤ x ∧ x ≤ 1000) (he : -2 ≤ e ∧ e ≤ 2) (hlo : ∀ k : Nat, 0 ≤ g (2 * k + 1) ∨ True) (pl : Nat) (hpl : pl ≤ n) (hp1 : ∀ j, j < pl → g (2 * j + 1) < x) : Ev X k_X9_putsSize (2, [some (vr 137), some (vi x), some (vi e), some (vi (pl : Int)), none], []) (MS I J cc ss) (PZ cc ss (fun z I' J' => I' = I ∧ (∀ a, a ≠ 137 → J' a = J a) ∧ ∃ pl : Nat, z = (pl : Int) ∧ pl ≤ n ∧ (∀ j, j < pl → g (2 * j + 1) < x) ∧ (pl = n ∨ x ≤ g (2 * pl + 1)) ∧ J' 137 = insF g pl n x e)) := by
  refine ev_n (fr' := (6, [some (vr 137), some (vi x), some (vi e), some (vi (pl : Int)), none], [vi 0, vr 137, vl (pl : Int)])) (S' := MS I J cc ss) 4 rfl ?_
  refine ev_laN (j := 0) (z := (n : Int)) rfl rfl (by omega) (by omega) ((congrFun hg 0).trans hg0) ?_
  show Ev X k_X9_putsSize (7, [some (vr 137), some (vi x), some (vi e), some (vi (pl : Int)), none], [vl (n : Int), vl (pl : Int)]) (MS I J cc ss) _
  refine ev_lc (c := .ge) (off := 22) rfl rfl (by decide) (fun (g1 : (n : Int) ≤ (pl : Int)) => ?_) (fun (g1 : ¬ ((n : Int) ≤ (pl : Int))) => ?_)
  · show Ev X k_X9_putsSize (30, [some (vr 137), some (vi x), some (vi e), some (vi (pl : Int)), none], []) (MS I J cc ss) _
    refine ev_n (fr' := (34, [some (vr 137), some (vi x), some (vi e), some (vi (pl : Int)), none], [vi 0, vr 137, vi 2, vi 1])) (S' := MS I J cc ss) 4 rfl ?_
    refine ev_laN (j := 0) (z := (n : Int)) rfl rfl (by omega) (by omega) ((congrFun hg 0).trans hg0) ?_
    show Ev X k_X9_putsSize (35, [some (vr 137), some (vi x), some (vi e), some (vi (pl : Int)), none], [vl (n : Int), vi 2, vi 1]) (MS I J cc ss) _
    refine ev_l2i rfl (by omega) (by omega) ?_
    show Ev X k_X9_putsSize (36, [some (vr 137), some (vi x), some (vi e), some (vi (pl : Int)), none], [vi (n : Int), vi 2, vi 1]) (MS I J cc ss) _
    refine ev_mul (z := 2 * (n : Int)) rfl (by omega) (by omega) (by omega) ?_
    show Ev X k_X9_putsSize (37, [some (vr 137), some (vi x), some (vi e), some (vi (pl : Int)), none], [vi (2 * (n : Int)), vi 1]) (MS I J cc ss) _
    refine ev_add (z := 2 * (n : Int) + 1) rfl (by omega) (by omega) (by omega) ?_
    show Ev X k_X9_putsSize (38, [some (vr 137), some (vi x), some (vi e), some (vi (pl : Int)), none], [vi (2 * (n : Int) + 1)]) (MS I J cc ss) _
    refine ev_n (fr' := (39, [some (vr 137), some (vi x), some (vi e), some (vi (pl : Int)), none], [vi 1, vi (2 * (n : Int) + 1)])) (S' := MS I J cc ss) 1 rfl ?_
    refine ev_sub (z := 2 * (n : Int)) rfl (by omega) (by omega) (by omega) ?_
    show Ev X k_X9_putsSize (40, [some (vr 137), some (vi x), some (vi e), some (vi (pl : Int)), none], [vi (2 * (n : Int))]) (MS I J cc ss) _
    refine ev_n (fr' := (42, [some (vr 137), some (vi x), some (vi e), some (vi (pl : Int)), some (vi (2 * (n : Int)))], [])) (S' := MS I J cc ss) 1 rfl ?_
    exact lp_pshift_137 X I J cc ss J n x e hg0 hn5 hx he pl hpl hp1 (by omega) (2 * n) (by omega) (fun _ _ => rfl) (fun j _ => congrFun hg j) (fun j h1 h2 => absurd h1 (by omega)) (fun j _ => congrFun hg j)
  · show Ev X k_X9_putsSize (11, [some (vr 137), some (vi x), some (vi e), some (vi (pl : Int)), none], []) (MS I J cc ss) _
    refine ev_n (fr' := (15, [some (vr 137), some (vi x), some (vi e), some (vi (pl : Int)), none], [vi (pl : Int), vi 2, vi 1, vr 137])) (S' := MS I J cc ss) 4 rfl ?_
    refine ev_mul (z := 2 * (pl : Int)) rfl (by omega) (by omega) (by omega) ?_
    show Ev X k_X9_putsSize (16, [some (vr 137), some (vi x), some (vi e), some (vi (pl : Int)), none], [vi (2 * (pl : Int)), vi 1, vr 137]) (MS I J cc ss) _
    refine ev_add (z := 2 * (pl : Int) + 1) rfl (by omega) (by omega) (by omega) ?_
    show Ev X k_X9_putsSize (17, [some (vr 137), some (vi x), some (vi e), some (vi (pl : Int)), none], [vi (2 * (pl : Int) + 1), vr 137]) (MS I J cc ss) _
    refine ev_laN (j := 2 * pl + 1) (z := (g (2 * pl + 1))) rfl rfl (by omega) (by omega) (congrFun hg _) ?_
    show Ev X k_X9_putsSize (18, [some (vr 137), some (vi x), some (vi e), some (vi (pl : Int)), none], [vl (g (2 * pl + 1))]) (MS I J cc ss) _
    refine ev_n (fr' := (20, [some (vr 137), some (vi x), some (vi e), some (vi (pl : Int)), none], [vl x, vl (g (2 * pl + 1))])) (S' := MS I J cc ss) 2 rfl ?_
    refine ev_lc (c := .ge) (off := 9) rfl rfl (by decide) (fun (g2 : x ≤ (g (2 * pl + 1))) => ?_) (fun (g2 : ¬ (x ≤ (g (2 * pl + 1)))) => ?_)
    · show Ev X k_X9_putsSize (30, [some (vr 137), some (vi x), some (vi e), some (vi (pl : Int)), none], []) (MS I J cc ss) _
      refine ev_n (fr' := (34, [some (vr 137), some (vi x), some (vi e), some (vi (pl : Int)), none], [vi 0, vr 137, vi 2, vi 1])) (S' := MS I J cc ss) 4 rfl ?_
      refine ev_laN (j := 0) (z := (n : Int)) rfl rfl (by omega) (by omega) ((congrFun hg 0).trans hg0) ?_
      show Ev X k_X9_putsSize (35, [some (vr 137), some (vi x), some (vi e), some (vi (pl : Int)), none], [vl (n : Int), vi 2, vi 1]) (MS I J cc ss) _
      refine ev_l2i rfl (by omega) (by omega) ?_
      show Ev X k_X9_putsSize (36, [some (vr 137), some (vi x), some (vi e), some (vi (pl : Int)), none], [vi (n : Int), vi 2, vi 1]) (MS I J cc ss) _
      refine ev_mul (z := 2 * (n : Int)) rfl (by omega) (by omega) (by omega) ?_
      show Ev X k_X9_putsSize (37, [some (vr 137), some (vi x), some (vi e), some (vi (pl : Int)), none], [vi (2 * (n : Int)), vi 1]) (MS I J cc ss) _
      refine ev_add (z := 2 * (n : Int) + 1) rfl (by omega) (by omega) (by omega) ?_
      show Ev X k_X9_putsSize (38, [some (vr 137), some (vi x), some (vi e), some (vi (pl : Int)), none], [vi (2 * (n : Int) + 1)]) (MS I J cc ss) _
      refine ev_n (fr' := (39, [some (vr 137), some (vi x), some (vi e), some (vi (pl : Int)), none], [vi 1, vi (2 * (n : Int) + 1)])) (S' := MS I J cc ss) 1 rfl ?_
      refine ev_sub (z := 2 * (n : Int)) rfl (by omega) (by omega) (by omega) ?_
      show Ev X k_X9_putsSize (40, [some (vr 137), some (vi x), some (vi e), some (vi (pl : Int)), none], [vi (2 * (n : Int))]) (MS I J cc ss) _
      refine ev_n (fr' := (42, [some (vr 137), some (vi x), some (vi e), some (vi (pl : Int)), some (vi (2 * (n : Int)))], [])) (S' := MS I J cc ss) 1 rfl ?_
      exact lp_pshift_137 X I J cc ss J n x e hg0 hn5 hx he pl hpl hp1 (by omega) (2 * n) (by omega) (fun _ _ => rfl) (fun j _ => congrFun hg j) (fun j h1 h2 => absurd h1 (by omega)) (fun j _ => congrFun hg j)
    · show Ev X k_X9_putsSize (24, [some (vr 137), some (vi x), some (vi e), some (vi (pl : Int)), none], []) (MS I J cc ss) _
      refine ev_inc (z := (pl : Int) + 1) rfl rfl (by omega) (by omega) (by omega) rfl ?_
      show Ev X k_X9_putsSize (27, [some (vr 137), some (vi x), some (vi e), some (vi ((pl : Int) + 1)), none], []) (MS I J cc ss) _
      refine ev_n (fr' := (2, [some (vr 137), some (vi x), some (vi e), some (vi ((pl : Int) + 1)), none], [])) (S' := MS I J cc ss) 1 rfl ?_
      exact lp_pfind_137 X I J cc ss hg n x e hg0 hn5 hx he hlo (pl + 1) (by omega) (nlt_succ hp1 (by omega))
termination_by 6 - pl
decreasing_by all_goals omega
theorem sp_putsSize_137 (X : AX) (I J : Nat → Nat → Int) (cc ss : Nat) {g : F1} (hg : J 137 = g) (n : Nat) (x e : Int) (hg0 : g 0 = (n : Int)) (hn5 : n < 5) (hx : 0 ≤ x ∧ x ≤ 1000) (he : -2 ≤ e ∧ e ≤ 2) : Ev X k_X9_putsSize (0, [some (vr 137), some (vi x), some (vi e), none, none], []) (MS I J cc ss) (PZ cc ss (fun z I' J' => I' = I ∧ (∀ a, a ≠ 137 → J' a = J a) ∧ ∃ pl : Nat, z = (pl : Int) ∧ pl ≤ n ∧ (∀ j, j < pl → g (2 * j + 1) < x) ∧ (pl = n ∨ x ≤ g (2 * pl + 1)) ∧ J' 137 = insF g pl n x e)) := by
  refine ev_n (fr' := (2, [some (vr 137), some (vi x), some (vi e), some (vi 0), none], [])) (S' := MS I J cc ss) 2 rfl ?_
  exact lp_pfind_137 X I J cc ss hg n x e hg0 hn5 hx he (fun _ => Or.inr trivial) 0 (by omega) (fun j h => absurd h (by omega))
