/-! PIECES AND HOLES, class side (printed by gen/g47.py) -/
def scrT (I I' : F2) : Prop := ∀ a, a ≠ 132 → a ≠ 133 → a ≠ 134 → I' a = I a
/-- the free pixels of a picture, for pieces and for holes -/
def holB (D : B2) (n : Nat) : B2 := fun y x => decide (y < n) && decide (x < n) && !D y x
theorem sp_side_126 (X : AX) (I J : Nat → Nat → Int) (cc ss : Nat) {D : B2} {e : Int} {n : Nat} (hD : DR I 126 (n : Int) e D) : Ev X k_X0_side (0, [some (vr 126)], []) (MS I J cc ss) (fun o T => o = .inl (some (vi (n : Int))) ∧ T = MS I J cc ss) := by
  refine ev_n (fr' := (4, [some (vr 126)], [vi (I 126 1)])) (S' := MS I J cc ss) 2 rfl ?_
  refine ev_eqi (hD.1) ?_
  show Ev X k_X0_side (4, [some (vr 126)], [vi (n : Int)]) (MS I J cc ss) _
  refine ev_r rfl rfl rfl ?_
  first | exact ⟨rfl, rfl⟩ | exact ⟨congrArg (fun z => Sum.inl (some (vi z))) (by first | rfl | (rw [if_pos (by omega)]) | (rw [if_neg (by omega)]) | (simp only [*]; done) | omega), rfl⟩
theorem lp_pieces (X : AX) (I J : Nat → Nat → Int) (cc ss : Nat) {D : B2} {e : Int} {n : Nat} (I0 : F2) (hD : DR I0 126 (n : Int) e D) (hn32 : n ≤ 32) (hsup : ∀ y x, D y x = true → y < n ∧ x < n) (k : Nat) (hk : k ≤ 32) (hn : I 132 2 = (n : Int)) (hF : scrT I0 I) (hZ : ∀ q, q < k → I 133 q = I0 127 q) : Ev X k_X7_piecesOf (15, [some (vr 132), some (vr 126), some (vi (k : Int))], []) (MS I J cc ss) (PZ cc ss (fun z I' J' => J' = J ∧ scrT I0 I' ∧ z = grpF n true false D)) := by
  refine ev_n (fr' := (18, [some (vr 132), some (vr 126), some (vi (k : Int))], [vi 32, vi (k : Int)])) (S' := MS I J cc ss) 2 rfl ?_
  refine ev_ic (c := .ge) (off := 20) rfl (by decide) (fun (g1 : 32 ≤ (k : Int)) => ?_) (fun (g1 : ¬ (32 ≤ (k : Int))) => ?_)
  · show Ev X k_X7_piecesOf (38, [some (vr 132), some (vr 126), some (vi (k : Int))], []) (MS I J cc ss) _
    have hon : ∀ y x, D y x = true → y < n ∧ x < n := hsup
    have hO : TR I 133 D := ⟨fun r hr => by rw [hZ r (by omega)]; exact hD.2.2 r hr, fun y x h => by have := hsup y x h; omega⟩
    refine ev_n (fr' := (41, [some (vr 132), some (vr 126), some (vi (k : Int))], [vi 0, vi 1, vr 132])) (S' := MS I J cc ss) 3 rfl ?_
    refine ev_cz rfl rfl rfl ⟨Nat.le_of_ble_eq_true rfl, Nat.le_of_ble_eq_true rfl⟩ (sp_countGroups1 X _ _ _ _ hn hn32 hon hO) (fun z I1 J q2 => ?_)
    obtain ⟨rfl, rI1, hz⟩ := q2
    show Ev X k_X7_piecesOf (44, [some (vr 132), some (vr 126), some (vi (k : Int))], [vi z]) (MS I1 J cc ss) _
    refine ev_r rfl rfl rfl ?_
    exact ⟨_, _, _, rfl, rfl, rfl, fun a h1 h2 h3 => (rI1 a h2 h3).trans (hF a h1 h2 h3), hz⟩
  · show Ev X k_X7_piecesOf (21, [some (vr 132), some (vr 126), some (vi (k : Int))], []) (MS I J cc ss) _
    refine ev_n (fr' := (28, [some (vr 132), some (vr 126), some (vi (k : Int))], [vi (k : Int), vr 126, vi (k : Int), vr 133])) (S' := MS I J cc ss) 5 rfl ?_
    refine ev_cv rfl rfl rfl ⟨Nat.le_of_ble_eq_true rfl, Nat.le_of_ble_eq_true rfl⟩ (sp_rowAt_126 X _ _ _ _ k (by omega)) ?_
    show Ev X k_X7_piecesOf (31, [some (vr 132), some (vr 126), some (vi (k : Int))], [vi (I 127 k), vi (k : Int), vr 133]) (MS I J cc ss) _
    refine ev_iasN (j := k) rfl rfl (by omega) (by omega) ?_
    show Ev X k_X7_piecesOf (32, [some (vr 132), some (vr 126), some (vi (k : Int))], []) (MS (up2 I 133 k (I 127 k)) J cc ss) _
    refine ev_inc (z := (k : Int) + 1) rfl rfl (by omega) (by omega) (by omega) rfl ?_
    show Ev X k_X7_piecesOf (35, [some (vr 132), some (vr 126), some (vi ((k : Int) + 1))], []) (MS (up2 I 133 k (I 127 k)) J cc ss) _
    refine ev_n (fr' := (15, [some (vr 132), some (vr 126), some (vi ((k : Int) + 1))], [])) (S' := MS (up2 I 133 k (I 127 k)) J cc ss) 1 rfl ?_
    exact lp_pieces X _ _ cc ss I0 hD hn32 hsup (k + 1) (by omega) (by rw [up2_row _ _ _ _ (by decide)]; exact hn) (fun a h1 h2 h3 => by rw [up2_row _ _ _ _ h2]; exact hF a h1 h2 h3) (fun q hq => by
      by_cases e1 : q = k
      · rw [e1, up2_same, hF 127 (by decide) (by decide) (by decide)]
      · rw [up2_ne2 _ _ _ _ e1]; exact hZ q (by omega))
termination_by 32 - k
decreasing_by all_goals omega
theorem sp_pieces (X : AX) (I J : Nat → Nat → Int) (cc ss : Nat) {D : B2} {e : Int} {n : Nat} (hD : DR I 126 (n : Int) e D) (hn32 : n ≤ 32) (hsup : ∀ y x, D y x = true → y < n ∧ x < n) : Ev X k_X7_piecesOf (0, [some (vr 132), some (vr 126), none], []) (MS I J cc ss) (PZ cc ss (fun z I' J' => J' = J ∧ scrT I I' ∧ z = grpF n true false D)) := by
  refine ev_n (fr' := (2, [some (vr 132), some (vr 126), none], [vr 126, vr 132])) (S' := MS I J cc ss) 2 rfl ?_
  refine ev_cv rfl rfl rfl ⟨Nat.le_of_ble_eq_true rfl, Nat.le_of_ble_eq_true rfl⟩ (sp_side_126 X _ _ _ _ hD) ?_
  show Ev X k_X7_piecesOf (5, [some (vr 132), some (vr 126), none], [vi (n : Int), vr 132]) (MS I J cc ss) _
  refine ev_n (fr' := (7, [some (vr 132), some (vr 126), none], [vi 32, vi (n : Int), vr 132])) (S' := MS I J cc ss) 1 rfl ?_
  refine ev_cv rfl rfl rfl ⟨Nat.le_of_ble_eq_true rfl, Nat.le_of_ble_eq_true rfl⟩ (sp_min X _ (n : Int) 32 ) ?_
  show Ev X k_X7_piecesOf (10, [some (vr 132), some (vr 126), none], [vi (if 32 < (n : Int) then 32 else (n : Int)), vr 132]) (MS I J cc ss) _
  refine ev_eqi (show (if 32 < (n : Int) then 32 else (n : Int)) = (n : Int) from by omega) ?_
  show Ev X k_X7_piecesOf (10, [some (vr 132), some (vr 126), none], [vi (n : Int), vr 132]) (MS I J cc ss) _
  refine ev_n (fr' := (13, [some (vr 132), some (vr 126), none], [])) (S' := MS (up2 I 132 2 (n : Int)) J cc ss) 1 rfl ?_
  refine ev_n (fr' := (15, [some (vr 132), some (vr 126), some (vi 0)], [])) (S' := MS (up2 I 132 2 (n : Int)) J cc ss) 2 rfl ?_
  exact lp_pieces X _ _ cc ss I hD hn32 hsup 0 (by omega) (by rw [up2_same]) (fun a h1 _ _ => up2_row _ _ _ _ h1) (fun q h => absurd h (by omega))
theorem lp_holes (X : AX) (I J : Nat → Nat → Int) (cc ss : Nat) {D : B2} {e : Int} {n : Nat} (I0 : F2) (hD : DR I0 126 (n : Int) e D) (hn32 : n ≤ 32) (hsup : ∀ y x, D y x = true → y < n ∧ x < n) (k : Nat) (hk : k ≤ 32) (hn : I 132 2 = (n : Int)) (hF : scrT I0 I) (hZ : ∀ q, q < k → I 133 q = (if q < n then opI (· &&& ·) (opI (· ^^^ ·) (I0 127 q) (-1)) (colM 0 (n : Int)) else 0)) : Ev X k_X7_holesOf (24, [some (vr 132), some (vr 126), some (vi (colM 0 (n : Int))), some (vi (k : Int))], []) (MS I J cc ss) (PZ cc ss (fun z I' J' => J' = J ∧ scrT I0 I' ∧ z = grpF n false true (holB D n))) := by
  refine ev_n (fr' := (27, [some (vr 132), some (vr 126), some (vi (colM 0 (n : Int))), some (vi (k : Int))], [vi 32, vi (k : Int)])) (S' := MS I J cc ss) 2 rfl ?_
  refine ev_ic (c := .ge) (off := 36) rfl (by decide) (fun (g1 : 32 ≤ (k : Int)) => ?_) (fun (g1 : ¬ (32 ≤ (k : Int))) => ?_)
  · show Ev X k_X7_holesOf (63, [some (vr 132), some (vr 126), some (vi (colM 0 (n : Int))), some (vi (k : Int))], []) (MS I J cc ss) _
    have hon : ∀ y x, (holB D n) y x = true → y < n ∧ x < n := fun y x h => by
      unfold holB at h; rw [Bool.and_eq_true, Bool.and_eq_true, decide_eq_true_eq, decide_eq_true_eq] at h; exact h.1
    have hO : TR I 133 (holB D n) := by
      refine ⟨fun r hr => ?_, fun y x h => by have := hon y x h; omega⟩
      rw [hZ r (by omega)]
      by_cases e1 : r < n
      · rw [if_pos e1]
        refine ⟨opI_rng _ _ _, fun c hc => ?_⟩
        rw [bt_and, bt_xor, bt_neg1, (hD.2.2 r hr).2 c hc, bt_colM (by omega) (by omega) hc, decide_eq_true hc]
        show _ = (decide (r < n) && decide (c < n) && !D r c)
        rw [decide_eq_true e1, show decide ((0 : Int) ≤ (c : Int) ∧ (c : Int) < (n : Int)) = decide (c < n) from by rw [decide_eq_decide]; omega]
        cases D r c <;> simp
      · rw [if_neg e1]
        refine ⟨⟨by omega, by omega⟩, fun c hc => ?_⟩
        rw [bt_zero]
        show _ = (decide (r < n) && decide (c < n) && !D r c)
        rw [decide_eq_false e1]; rfl
    refine ev_n (fr' := (66, [some (vr 132), some (vr 126), some (vi (colM 0 (n : Int))), some (vi (k : Int))], [vi 1, vi 0, vr 132])) (S' := MS I J cc ss) 3 rfl ?_
    refine ev_cz rfl rfl rfl ⟨Nat.le_of_ble_eq_true rfl, Nat.le_of_ble_eq_true rfl⟩ (sp_countGroups0 X _ _ _ _ hn hn32 hon hO) (fun z I1 J q2 => ?_)
    obtain ⟨rfl, rI1, hz⟩ := q2
    show Ev X k_X7_holesOf (69, [some (vr 132), some (vr 126), some (vi (colM 0 (n : Int))), some (vi (k : Int))], [vi z]) (MS I1 J cc ss) _
    refine ev_r rfl rfl rfl ?_
    exact ⟨_, _, _, rfl, rfl, rfl, fun a h1 h2 h3 => (rI1 a h2 h3).trans (hF a h1 h2 h3), hz⟩
  · show Ev X k_X7_holesOf (30, [some (vr 132), some (vr 126), some (vi (colM 0 (n : Int))), some (vi (k : Int))], []) (MS I J cc ss) _
    refine ev_n (fr' := (40, [some (vr 132), some (vr 126), some (vi (colM 0 (n : Int))), some (vi (k : Int))], [vi (I 132 2), vi (k : Int), vi (k : Int), vr 133])) (S' := MS I J cc ss) 6 rfl ?_
    refine ev_eqi (hn) ?_
    show Ev X k_X7_holesOf (40, [some (vr 132), some (vr 126), some (vi (colM 0 (n : Int))), some (vi (k : Int))], [vi (n : Int), vi (k : Int), vi (k : Int), vr 133]) (MS I J cc ss) _
    refine ev_ic (c := .ge) (off := 15) rfl (by decide) (fun (g2 : (n : Int) ≤ (k : Int)) => ?_) (fun (g2 : ¬ ((n : Int) ≤ (k : Int))) => ?_)
    · show Ev X k_X7_holesOf (55, [some (vr 132), some (vr 126), some (vi (colM 0 (n : Int))), some (vi (k : Int))], [vi (k : Int), vr 133]) (MS I J cc ss) _
      refine ev_n (fr' := (56, [some (vr 132), some (vr 126), some (vi (colM 0 (n : Int))), some (vi (k : Int))], [vi 0, vi (k : Int), vr 133])) (S' := MS I J cc ss) 1 rfl ?_
      refine ev_iasN (j := k) rfl rfl (by omega) (by omega) ?_
      show Ev X k_X7_holesOf (57, [some (vr 132), some (vr 126), some (vi (colM 0 (n : Int))), some (vi (k : Int))], []) (MS (up2 I 133 k 0) J cc ss) _
      refine ev_inc (z := (k : Int) + 1) rfl rfl (by omega) (by omega) (by omega) rfl ?_
      show Ev X k_X7_holesOf (60, [some (vr 132), some (vr 126), some (vi (colM 0 (n : Int))), some (vi ((k : Int) + 1))], []) (MS (up2 I 133 k 0) J cc ss) _
      refine ev_n (fr' := (24, [some (vr 132), some (vr 126), some (vi (colM 0 (n : Int))), some (vi ((k : Int) + 1))], [])) (S' := MS (up2 I 133 k 0) J cc ss) 1 rfl ?_
      exact lp_holes X _ _ cc ss I0 hD hn32 hsup (k + 1) (by omega) (by rw [up2_row _ _ _ _ (by decide)]; exact hn) (fun a h1 h2 h3 => by rw [up2_row _ _ _ _ h2]; exact hF a h1 h2 h3) (fun q hq => by
        by_cases e1 : q = k
        · rw [e1, up2_same, if_neg (by omega)]
        · rw [up2_ne2 _ _ _ _ e1]; exact hZ q (by omega))
    · show Ev X k_X7_holesOf (43, [some (vr 132), some (vr 126), some (vi (colM 0 (n : Int))), some (vi (k : Int))], [vi (k : Int), vr 133]) (MS I J cc ss) _
      refine ev_n (fr' := (45, [some (vr 132), some (vr 126), some (vi (colM 0 (n : Int))), some (vi (k : Int))], [vi (k : Int), vr 126, vi (k : Int), vr 133])) (S' := MS I J cc ss) 2 rfl ?_
      refine ev_cv rfl rfl rfl ⟨Nat.le_of_ble_eq_true rfl, Nat.le_of_ble_eq_true rfl⟩ (sp_rowAt_126 X _ _ _ _ k (by omega)) ?_
      show Ev X k_X7_holesOf (48, [some (vr 132), some (vr 126), some (vi (colM 0 (n : Int))), some (vi (k : Int))], [vi (I 127 k), vi (k : Int), vr 133]) (MS I J cc ss) _
      refine ev_n (fr' := (56, [some (vr 132), some (vr 126), some (vi (colM 0 (n : Int))), some (vi (k : Int))], [vi (opI (· &&& ·) (opI (· ^^^ ·) (I 127 k) (-1)) (colM 0 (n : Int))), vi (k : Int), vr 133])) (S' := MS I J cc ss) 5 rfl ?_
      refine ev_iasN (j := k) rfl rfl (by omega) (by omega) ?_
      show Ev X k_X7_holesOf (57, [some (vr 132), some (vr 126), some (vi (colM 0 (n : Int))), some (vi (k : Int))], []) (MS (up2 I 133 k (opI (· &&& ·) (opI (· ^^^ ·) (I 127 k) (-1)) (colM 0 (n : Int)))) J cc ss) _
      refine ev_inc (z := (k : Int) + 1) rfl rfl (by omega) (by omega) (by omega) rfl ?_
      show Ev X k_X7_holesOf (60, [some (vr 132), some (vr 126), some (vi (colM 0 (n : Int))), some (vi ((k : Int) + 1))], []) (MS (up2 I 133 k (opI (· &&& ·) (opI (· ^^^ ·) (I 127 k) (-1)) (colM 0 (n : Int)))) J cc ss) _
      refine ev_n (fr' := (24, [some (vr 132), some (vr 126), some (vi (colM 0 (n : Int))), some (vi ((k : Int) + 1))], [])) (S' := MS (up2 I 133 k (opI (· &&& ·) (opI (· ^^^ ·) (I 127 k) (-1)) (colM 0 (n : Int)))) J cc ss) 1 rfl ?_
      exact lp_holes X _ _ cc ss I0 hD hn32 hsup (k + 1) (by omega) (by rw [up2_row _ _ _ _ (by decide)]; exact hn) (fun a h1 h2 h3 => by rw [up2_row _ _ _ _ h2]; exact hF a h1 h2 h3) (fun q hq => by
        by_cases e1 : q = k
        · rw [e1, up2_same, if_pos (by omega), hF 127 (by decide) (by decide) (by decide)]
        · rw [up2_ne2 _ _ _ _ e1]; exact hZ q (by omega))
termination_by 32 - k
decreasing_by all_goals omega
theorem sp_holes (X : AX) (I J : Nat → Nat → Int) (cc ss : Nat) {D : B2} {e : Int} {n : Nat} (hD : DR I 126 (n : Int) e D) (hn32 : n ≤ 32) (hsup : ∀ y x, D y x = true → y < n ∧ x < n) : Ev X k_X7_holesOf (0, [some (vr 132), some (vr 126), none, none], []) (MS I J cc ss) (PZ cc ss (fun z I' J' => J' = J ∧ scrT I I' ∧ z = grpF n false true (holB D n))) := by
  refine ev_n (fr' := (2, [some (vr 132), some (vr 126), none, none], [vr 126, vr 132])) (S' := MS I J cc ss) 2 rfl ?_
  refine ev_cv rfl rfl rfl ⟨Nat.le_of_ble_eq_true rfl, Nat.le_of_ble_eq_true rfl⟩ (sp_side_126 X _ _ _ _ hD) ?_
  show Ev X k_X7_holesOf (5, [some (vr 132), some (vr 126), none, none], [vi (n : Int), vr 132]) (MS I J cc ss) _
  refine ev_n (fr' := (7, [some (vr 132), some (vr 126), none, none], [vi 32, vi (n : Int), vr 132])) (S' := MS I J cc ss) 1 rfl ?_
  refine ev_cv rfl rfl rfl ⟨Nat.le_of_ble_eq_true rfl, Nat.le_of_ble_eq_true rfl⟩ (sp_min X _ (n : Int) 32 ) ?_
  show Ev X k_X7_holesOf (10, [some (vr 132), some (vr 126), none, none], [vi (if 32 < (n : Int) then 32 else (n : Int)), vr 132]) (MS I J cc ss) _
  refine ev_eqi (show (if 32 < (n : Int) then 32 else (n : Int)) = (n : Int) from by omega) ?_
  show Ev X k_X7_holesOf (10, [some (vr 132), some (vr 126), none, none], [vi (n : Int), vr 132]) (MS I J cc ss) _
  refine ev_n (fr' := (13, [some (vr 132), some (vr 126), none, none], [])) (S' := MS (up2 I 132 2 (n : Int)) J cc ss) 1 rfl ?_
  refine ev_n (fr' := (18, [some (vr 132), some (vr 126), none, none], [vi (n : Int), vi 0])) (S' := MS (up2 I 132 2 (n : Int)) J cc ss) 3 rfl ?_
  refine ev_cv rfl rfl rfl ⟨Nat.le_of_ble_eq_true rfl, Nat.le_of_ble_eq_true rfl⟩ (sp_columnMask X _ 0 (n : Int) (by omega)) ?_
  show Ev X k_X7_holesOf (21, [some (vr 132), some (vr 126), none, none], [vi (colM 0 (n : Int))]) (MS (up2 I 132 2 (n : Int)) J cc ss) _
  refine ev_n (fr' := (24, [some (vr 132), some (vr 126), some (vi (colM 0 (n : Int))), some (vi 0)], [])) (S' := MS (up2 I 132 2 (n : Int)) J cc ss) 3 rfl ?_
  exact lp_holes X _ _ cc ss I hD hn32 hsup 0 (by omega) (by rw [up2_same]) (fun a h1 _ _ => up2_row _ _ _ _ h1) (fun q h => absurd h (by omega))
