/-! ROWS, MIRRORS (printed by gen/g41.py) -/
theorem row_zero {I : F2} {d : Nat} {P e : Int} {D : Nat → Nat → Bool} (hD : DR I d P e D) {r : Nat} (hr : r < 32) : I (d + 1) r = 0 ↔ rowB D r = false := by
  rw [bt_eq0 (hD.2.2 r hr).1]
  unfold rowB
  rw [orN_false]
  exact ⟨fun h i hi => by rw [← (hD.2.2 r hr).2 i hi]; exact h i hi, fun h i hi => by rw [(hD.2.2 r hr).2 i hi]; exact h i hi⟩
theorem row_eq {I : F2} {d : Nat} {P e : Int} {D : Nat → Nat → Bool} (hD : DR I d P e D) {r r2 : Nat} (hr : r < 32) (hr2 : r2 < 32) : I (d + 1) r = I (d + 1) r2 ↔ ∀ x, x < 32 → D r x = D r2 x := by
  constructor
  · intro h x hx; rw [← (hD.2.2 r hr).2 x hx, ← (hD.2.2 r2 hr2).2 x hx, h]
  · intro h; exact bt_ext (hD.2.2 r hr).1 (hD.2.2 r2 hr2).1 (fun c hc => by rw [(hD.2.2 r hr).2 c hc, (hD.2.2 r2 hr2).2 c hc, h c hc])
theorem lp_firstRow (X : AX) (I J : Nat → Nat → Int) (cc ss : Nat) {D : Nat → Nat → Bool} {P e : Int} (hD : DR I 126 P e D) (k : Nat) (hk : k ≤ 32) (hq : ∀ q, q < k → rowB D q = false) : Ev X k_X0_firstRow (2, [some (vr 126), some (vi (k : Int))], []) (MS I J cc ss) (fun o T => o = .inl (some (vi (firstF (rowB D)))) ∧ T = MS I J cc ss) := by
  refine ev_n (fr' := (5, [some (vr 126), some (vi (k : Int))], [vi 32, vi (k : Int)])) (S' := MS I J cc ss) 2 rfl ?_
  refine ev_ic (c := .ge) (off := 20) rfl (by decide) (fun (g1 : 32 ≤ (k : Int)) => ?_) (fun (g1 : ¬ (32 ≤ (k : Int))) => ?_)
  · show Ev X k_X0_firstRow (25, [some (vr 126), some (vi (k : Int))], []) (MS I J cc ss) _
    refine ev_n (fr' := (26, [some (vr 126), some (vi (k : Int))], [vi (-1)])) (S' := MS I J cc ss) 1 rfl ?_
    refine ev_r rfl rfl rfl ?_
    exact ⟨congrArg (fun z => Sum.inl (some (vi z))) (firstF_miss (fun q h => hq q (by omega))).symm, rfl⟩
  · show Ev X k_X0_firstRow (8, [some (vr 126), some (vi (k : Int))], []) (MS I J cc ss) _
    refine ev_n (fr' := (13, [some (vr 126), some (vi (k : Int))], [vi (k : Int), vr 127])) (S' := MS I J cc ss) 3 rfl ?_
    refine ev_iaN (j := k) (z := (I 127 k)) rfl rfl (by omega) (by omega) (rfl) ?_
    show Ev X k_X0_firstRow (14, [some (vr 126), some (vi (k : Int))], [vi (I 127 k)]) (MS I J cc ss) _
    refine ev_if (c := .eq) (off := 5) rfl (by decide) (fun (g2 : (I 127 k) = 0) => ?_) (fun (g2 : ¬ ((I 127 k) = 0)) => ?_)
    · show Ev X k_X0_firstRow (19, [some (vr 126), some (vi (k : Int))], []) (MS I J cc ss) _
      refine ev_inc (z := (k : Int) + 1) rfl rfl (by omega) (by omega) (by omega) rfl ?_
      show Ev X k_X0_firstRow (22, [some (vr 126), some (vi ((k : Int) + 1))], []) (MS I J cc ss) _
      refine ev_n (fr' := (2, [some (vr 126), some (vi ((k : Int) + 1))], [])) (S' := MS I J cc ss) 1 rfl ?_
      exact lp_firstRow X _ _ cc ss hD (k + 1) (by omega) (nlt_succ hq ((row_zero hD (by omega)).mp g2))
    · show Ev X k_X0_firstRow (17, [some (vr 126), some (vi (k : Int))], []) (MS I J cc ss) _
      refine ev_n (fr' := (18, [some (vr 126), some (vi (k : Int))], [vi (k : Int)])) (S' := MS I J cc ss) 1 rfl ?_
      refine ev_r rfl rfl rfl ?_
      exact ⟨congrArg (fun z => Sum.inl (some (vi z))) (firstF_hit (by omega) (Decidable.of_not_not (fun h => g2 ((row_zero hD (by omega)).mpr (Bool.not_eq_true _ ▸ h)))) hq).symm, rfl⟩
termination_by 32 - k
decreasing_by all_goals omega
theorem sp_firstRow (X : AX) (I J : Nat → Nat → Int) (cc ss : Nat) {D : Nat → Nat → Bool} {P e : Int} (hD : DR I 126 P e D) : Ev X k_X0_firstRow (0, [some (vr 126), none], []) (MS I J cc ss) (fun o T => o = .inl (some (vi (firstF (rowB D)))) ∧ T = MS I J cc ss) := by
  refine ev_n (fr' := (2, [some (vr 126), some (vi 0)], [])) (S' := MS I J cc ss) 2 rfl ?_
  exact lp_firstRow X _ _ cc ss hD 0 (by omega) (fun q h => absurd h (by omega))
theorem lp_lastRow (X : AX) (I J : Nat → Nat → Int) (cc ss : Nat) {D : Nat → Nat → Bool} {P e : Int} (hD : DR I 126 P e D) (k : Nat) (hk : k ≤ 32) (hq : ∀ q, k ≤ q → q < 32 → rowB D q = false) : Ev X k_X0_lastRow (3, [some (vr 126), some (vi ((k : Int) - 1))], []) (MS I J cc ss) (fun o T => o = .inl (some (vi (lastF (rowB D)))) ∧ T = MS I J cc ss) := by
  refine ev_n (fr' := (4, [some (vr 126), some (vi ((k : Int) - 1))], [vi ((k : Int) - 1)])) (S' := MS I J cc ss) 1 rfl ?_
  refine ev_if (c := .lt) (off := 20) rfl (by decide) (fun (g1 : (k : Int) - 1 < 0) => ?_) (fun (g1 : ¬ ((k : Int) - 1 < 0)) => ?_)
  · show Ev X k_X0_lastRow (24, [some (vr 126), some (vi ((k : Int) - 1))], []) (MS I J cc ss) _
    refine ev_n (fr' := (25, [some (vr 126), some (vi ((k : Int) - 1))], [vi (-1)])) (S' := MS I J cc ss) 1 rfl ?_
    refine ev_r rfl rfl rfl ?_
    exact ⟨congrArg (fun z => Sum.inl (some (vi z))) (lstN_miss 32 (fun q h => hq q (by omega) h)).symm, rfl⟩
  · show Ev X k_X0_lastRow (7, [some (vr 126), some (vi ((k : Int) - 1))], []) (MS I J cc ss) _
    refine ev_n (fr' := (12, [some (vr 126), some (vi ((k : Int) - 1))], [vi ((k : Int) - 1), vr 127])) (S' := MS I J cc ss) 3 rfl ?_
    refine ev_iaN (j := k - 1) (z := (I 127 (k - 1))) rfl rfl (by omega) (by omega) (rfl) ?_
    show Ev X k_X0_lastRow (13, [some (vr 126), some (vi ((k : Int) - 1))], [vi (I 127 (k - 1))]) (MS I J cc ss) _
    refine ev_if (c := .eq) (off := 5) rfl (by decide) (fun (g2 : (I 127 (k - 1)) = 0) => ?_) (fun (g2 : ¬ ((I 127 (k - 1)) = 0)) => ?_)
    · show Ev X k_X0_lastRow (18, [some (vr 126), some (vi ((k : Int) - 1))], []) (MS I J cc ss) _
      refine ev_inc (z := (k : Int) - 2) rfl rfl (by omega) (by omega) (by omega) rfl ?_
      show Ev X k_X0_lastRow (21, [some (vr 126), some (vi ((k : Int) - 2))], []) (MS I J cc ss) _
      refine ev_n (fr' := (3, [some (vr 126), some (vi ((k : Int) - 2))], [])) (S' := MS I J cc ss) 1 rfl ?_
      rw [show (k : Int) - 2 = ((k - 1 : Nat) : Int) - 1 by omega]
      exact lp_lastRow X _ _ cc ss hD (k - 1) (by omega) (fun q h1 h2 => (Nat.lt_or_ge q k).elim (fun h3 => by rw [show q = k - 1 by omega]; exact (row_zero hD (by omega)).mp g2) (fun h3 => hq q h3 h2))
    · show Ev X k_X0_lastRow (16, [some (vr 126), some (vi ((k : Int) - 1))], []) (MS I J cc ss) _
      refine ev_n (fr' := (17, [some (vr 126), some (vi ((k : Int) - 1))], [vi ((k : Int) - 1)])) (S' := MS I J cc ss) 1 rfl ?_
      refine ev_r rfl rfl rfl ?_
      exact ⟨congrArg (fun z => Sum.inl (some (vi z))) ((lstN_hit (c := k - 1) (Decidable.of_not_not (fun h => g2 ((row_zero hD (by omega)).mpr (Bool.not_eq_true _ ▸ h)))) 32 (by omega) (fun q h1 h2 => hq q (by omega) h2)).trans (by omega)).symm, rfl⟩
termination_by k
decreasing_by all_goals omega
theorem sp_lastRow (X : AX) (I J : Nat → Nat → Int) (cc ss : Nat) {D : Nat → Nat → Bool} {P e : Int} (hD : DR I 126 P e D) : Ev X k_X0_lastRow (0, [some (vr 126), none], []) (MS I J cc ss) (fun o T => o = .inl (some (vi (lastF (rowB D)))) ∧ T = MS I J cc ss) := by
  refine ev_n (fr' := (3, [some (vr 126), some (vi 31)], [])) (S' := MS I J cc ss) 2 rfl ?_
  exact lp_lastRow X _ _ cc ss hD 32 (by omega) (fun q h h2 => absurd h (by omega))
theorem sp_rowAt_126 (X : AX) (I J : Nat → Nat → Int) (cc ss : Nat)  (r : Nat) (hr : r < 32) : Ev X k_X0_rowAt (0, [some (vr 126), some (vi (r : Int))], []) (MS I J cc ss) (fun o T => o = .inl (some (vi (I 127 r))) ∧ T = MS I J cc ss) := by
  refine ev_n (fr' := (4, [some (vr 126), some (vi (r : Int))], [vi 31, vi 0, vi (r : Int)])) (S' := MS I J cc ss) 3 rfl ?_
  refine ev_cv rfl rfl rfl ⟨Nat.le_of_ble_eq_true rfl, Nat.le_of_ble_eq_true rfl⟩ (sp_within X _ (r : Int) 0 31 ) ?_
  show Ev X k_X0_rowAt (7, [some (vr 126), some (vi (r : Int))], [vi (if 0 ≤ (r : Int) ∧ (r : Int) ≤ 31 then 1 else 0)]) (MS I J cc ss) _
  refine ev_beq _ rfl (by decide) (fun (g1 : ¬ (0 ≤ (r : Int) ∧ (r : Int) ≤ 31)) => False.elim (by omega)) (fun (g1 : 0 ≤ (r : Int) ∧ (r : Int) ≤ 31) => ?_)
  show Ev X k_X0_rowAt (10, [some (vr 126), some (vi (r : Int))], []) (MS I J cc ss) _
  refine ev_n (fr' := (15, [some (vr 126), some (vi (r : Int))], [vi (r : Int), vr 127])) (S' := MS I J cc ss) 3 rfl ?_
  refine ev_iaN (j := r) (z := (I 127 r)) rfl rfl (by omega) (by omega) (rfl) ?_
  show Ev X k_X0_rowAt (16, [some (vr 126), some (vi (r : Int))], [vi (I 127 r)]) (MS I J cc ss) _
  refine ev_n (fr' := (20, [some (vr 126), some (vi (r : Int))], [vi (I 127 r)])) (S' := MS I J cc ss) 1 rfl ?_
  refine ev_r rfl rfl rfl ?_
  first | exact ⟨rfl, rfl⟩ | exact ⟨congrArg (fun z => Sum.inl (some (vi z))) (by first | rfl | (rw [if_pos (by omega)]) | (rw [if_neg (by omega)]) | (simp only [*]; done) | omega), rfl⟩
theorem sp_hasInk_126 (X : AX) (I J : Nat → Nat → Int) (cc ss : Nat) {D : Nat → Nat → Bool} {P e : Int} (u r : Nat) (hD : DR I 126 P e D) (hu : u < 32) (hr : r < 32) : Ev X k_X0_hasInk (0, [some (vr 126), some (vi (u : Int)), some (vi (r : Int))], []) (MS I J cc ss) (fun o T => o = .inl (some (vi (if D r u = true then 1 else 0))) ∧ T = MS I J cc ss) := by
  refine ev_n (fr' := (4, [some (vr 126), some (vi (u : Int)), some (vi (r : Int))], [vi 31, vi 0, vi (u : Int)])) (S' := MS I J cc ss) 3 rfl ?_
  refine ev_cv rfl rfl rfl ⟨Nat.le_of_ble_eq_true rfl, Nat.le_of_ble_eq_true rfl⟩ (sp_within X _ (u : Int) 0 31 ) ?_
  show Ev X k_X0_hasInk (7, [some (vr 126), some (vi (u : Int)), some (vi (r : Int))], [vi (if 0 ≤ (u : Int) ∧ (u : Int) ≤ 31 then 1 else 0)]) (MS I J cc ss) _
  refine ev_beq _ rfl (by decide) (fun (g1 : ¬ (0 ≤ (u : Int) ∧ (u : Int) ≤ 31)) => False.elim (by omega)) (fun (g1 : 0 ≤ (u : Int) ∧ (u : Int) ≤ 31) => ?_)
  show Ev X k_X0_hasInk (10, [some (vr 126), some (vi (u : Int)), some (vi (r : Int))], []) (MS I J cc ss) _
  have hb := (hD.2.2 r hr).2 u hu
  refine ev_n (fr' := (12, [some (vr 126), some (vi (u : Int)), some (vi (r : Int))], [vi (r : Int), vr 126])) (S' := MS I J cc ss) 2 rfl ?_
  refine ev_cv rfl rfl rfl ⟨Nat.le_of_ble_eq_true rfl, Nat.le_of_ble_eq_true rfl⟩ (sp_rowAt_126 X _ _ _ _ r (by omega)) ?_
  show Ev X k_X0_hasInk (15, [some (vr 126), some (vi (u : Int)), some (vi (r : Int))], [vi (I 127 r)]) (MS I J cc ss) _
  refine ev_n (fr' := (19, [some (vr 126), some (vi (u : Int)), some (vi (r : Int))], [vi (opI (· &&& ·) (opI fUsh (I 127 r) (u : Int)) 1)])) (S' := MS I J cc ss) 4 rfl ?_
  refine ev_eqi (show (opI (· &&& ·) (opI fUsh (I 127 r) (u : Int)) 1) = (if bt (I 127 r) u = true then 1 else 0) from ush_and1 hu _) ?_
  show Ev X k_X0_hasInk (19, [some (vr 126), some (vi (u : Int)), some (vi (r : Int))], [vi (if bt (I 127 r) u = true then 1 else 0)]) (MS I J cc ss) _
  refine ev_n (fr' := (20, [some (vr 126), some (vi (u : Int)), some (vi (r : Int))], [vi 1, vi (if bt (I 127 r) u = true then 1 else 0)])) (S' := MS I J cc ss) 1 rfl ?_
  refine ev_ic (c := .ne) (off := 7) rfl (by decide) (fun (g2 : (if bt (I 127 r) u = true then 1 else 0) ≠ 1) => ?_) (fun (g2 : ¬ ((if bt (I 127 r) u = true then 1 else 0) ≠ 1)) => ?_)
  · show Ev X k_X0_hasInk (27, [some (vr 126), some (vi (u : Int)), some (vi (r : Int))], []) (MS I J cc ss) _
    refine ev_n (fr' := (28, [some (vr 126), some (vi (u : Int)), some (vi (r : Int))], [vi 0])) (S' := MS I J cc ss) 1 rfl ?_
    refine ev_r rfl rfl rfl ?_
    exact ⟨congrArg (fun z => Sum.inl (some (vi z))) (by rw [← hb]; rw [if_neg (fun h => g2 (by rw [if_pos h]))]), rfl⟩
  · show Ev X k_X0_hasInk (23, [some (vr 126), some (vi (u : Int)), some (vi (r : Int))], []) (MS I J cc ss) _
    refine ev_n (fr' := (28, [some (vr 126), some (vi (u : Int)), some (vi (r : Int))], [vi 1])) (S' := MS I J cc ss) 2 rfl ?_
    refine ev_r rfl rfl rfl ?_
    exact ⟨congrArg (fun z => Sum.inl (some (vi z))) (by rw [← hb]; rw [if_pos (Decidable.of_not_not (fun h => g2 (by rw [if_neg h]; decide)))]), rfl⟩
theorem sp_rowAt_130 (X : AX) (I J : Nat → Nat → Int) (cc ss : Nat)  (r : Nat) (hr : r < 32) : Ev X k_X0_rowAt (0, [some (vr 130), some (vi (r : Int))], []) (MS I J cc ss) (fun o T => o = .inl (some (vi (I 131 r))) ∧ T = MS I J cc ss) := by
  refine ev_n (fr' := (4, [some (vr 130), some (vi (r : Int))], [vi 31, vi 0, vi (r : Int)])) (S' := MS I J cc ss) 3 rfl ?_
  refine ev_cv rfl rfl rfl ⟨Nat.le_of_ble_eq_true rfl, Nat.le_of_ble_eq_true rfl⟩ (sp_within X _ (r : Int) 0 31 ) ?_
  show Ev X k_X0_rowAt (7, [some (vr 130), some (vi (r : Int))], [vi (if 0 ≤ (r : Int) ∧ (r : Int) ≤ 31 then 1 else 0)]) (MS I J cc ss) _
  refine ev_beq _ rfl (by decide) (fun (g1 : ¬ (0 ≤ (r : Int) ∧ (r : Int) ≤ 31)) => False.elim (by omega)) (fun (g1 : 0 ≤ (r : Int) ∧ (r : Int) ≤ 31) => ?_)
  show Ev X k_X0_rowAt (10, [some (vr 130), some (vi (r : Int))], []) (MS I J cc ss) _
  refine ev_n (fr' := (15, [some (vr 130), some (vi (r : Int))], [vi (r : Int), vr 131])) (S' := MS I J cc ss) 3 rfl ?_
  refine ev_iaN (j := r) (z := (I 131 r)) rfl rfl (by omega) (by omega) (rfl) ?_
  show Ev X k_X0_rowAt (16, [some (vr 130), some (vi (r : Int))], [vi (I 131 r)]) (MS I J cc ss) _
  refine ev_n (fr' := (20, [some (vr 130), some (vi (r : Int))], [vi (I 131 r)])) (S' := MS I J cc ss) 1 rfl ?_
  refine ev_r rfl rfl rfl ?_
  first | exact ⟨rfl, rfl⟩ | exact ⟨congrArg (fun z => Sum.inl (some (vi z))) (by first | rfl | (rw [if_pos (by omega)]) | (rw [if_neg (by omega)]) | (simp only [*]; done) | omega), rfl⟩
theorem sp_hasInk_130 (X : AX) (I J : Nat → Nat → Int) (cc ss : Nat) {D : Nat → Nat → Bool} {P e : Int} (u r : Nat) (hD : DR I 130 P e D) (hu : u < 32) (hr : r < 32) : Ev X k_X0_hasInk (0, [some (vr 130), some (vi (u : Int)), some (vi (r : Int))], []) (MS I J cc ss) (fun o T => o = .inl (some (vi (if D r u = true then 1 else 0))) ∧ T = MS I J cc ss) := by
  refine ev_n (fr' := (4, [some (vr 130), some (vi (u : Int)), some (vi (r : Int))], [vi 31, vi 0, vi (u : Int)])) (S' := MS I J cc ss) 3 rfl ?_
  refine ev_cv rfl rfl rfl ⟨Nat.le_of_ble_eq_true rfl, Nat.le_of_ble_eq_true rfl⟩ (sp_within X _ (u : Int) 0 31 ) ?_
  show Ev X k_X0_hasInk (7, [some (vr 130), some (vi (u : Int)), some (vi (r : Int))], [vi (if 0 ≤ (u : Int) ∧ (u : Int) ≤ 31 then 1 else 0)]) (MS I J cc ss) _
  refine ev_beq _ rfl (by decide) (fun (g1 : ¬ (0 ≤ (u : Int) ∧ (u : Int) ≤ 31)) => False.elim (by omega)) (fun (g1 : 0 ≤ (u : Int) ∧ (u : Int) ≤ 31) => ?_)
  show Ev X k_X0_hasInk (10, [some (vr 130), some (vi (u : Int)), some (vi (r : Int))], []) (MS I J cc ss) _
  have hb := (hD.2.2 r hr).2 u hu
  refine ev_n (fr' := (12, [some (vr 130), some (vi (u : Int)), some (vi (r : Int))], [vi (r : Int), vr 130])) (S' := MS I J cc ss) 2 rfl ?_
  refine ev_cv rfl rfl rfl ⟨Nat.le_of_ble_eq_true rfl, Nat.le_of_ble_eq_true rfl⟩ (sp_rowAt_130 X _ _ _ _ r (by omega)) ?_
  show Ev X k_X0_hasInk (15, [some (vr 130), some (vi (u : Int)), some (vi (r : Int))], [vi (I 131 r)]) (MS I J cc ss) _
  refine ev_n (fr' := (19, [some (vr 130), some (vi (u : Int)), some (vi (r : Int))], [vi (opI (· &&& ·) (opI fUsh (I 131 r) (u : Int)) 1)])) (S' := MS I J cc ss) 4 rfl ?_
  refine ev_eqi (show (opI (· &&& ·) (opI fUsh (I 131 r) (u : Int)) 1) = (if bt (I 131 r) u = true then 1 else 0) from ush_and1 hu _) ?_
  show Ev X k_X0_hasInk (19, [some (vr 130), some (vi (u : Int)), some (vi (r : Int))], [vi (if bt (I 131 r) u = true then 1 else 0)]) (MS I J cc ss) _
  refine ev_n (fr' := (20, [some (vr 130), some (vi (u : Int)), some (vi (r : Int))], [vi 1, vi (if bt (I 131 r) u = true then 1 else 0)])) (S' := MS I J cc ss) 1 rfl ?_
  refine ev_ic (c := .ne) (off := 7) rfl (by decide) (fun (g2 : (if bt (I 131 r) u = true then 1 else 0) ≠ 1) => ?_) (fun (g2 : ¬ ((if bt (I 131 r) u = true then 1 else 0) ≠ 1)) => ?_)
  · show Ev X k_X0_hasInk (27, [some (vr 130), some (vi (u : Int)), some (vi (r : Int))], []) (MS I J cc ss) _
    refine ev_n (fr' := (28, [some (vr 130), some (vi (u : Int)), some (vi (r : Int))], [vi 0])) (S' := MS I J cc ss) 1 rfl ?_
    refine ev_r rfl rfl rfl ?_
    exact ⟨congrArg (fun z => Sum.inl (some (vi z))) (by rw [← hb]; rw [if_neg (fun h => g2 (by rw [if_pos h]))]), rfl⟩
  · show Ev X k_X0_hasInk (23, [some (vr 130), some (vi (u : Int)), some (vi (r : Int))], []) (MS I J cc ss) _
    refine ev_n (fr' := (28, [some (vr 130), some (vi (u : Int)), some (vi (r : Int))], [vi 1])) (S' := MS I J cc ss) 2 rfl ?_
    refine ev_r rfl rfl rfl ?_
    exact ⟨congrArg (fun z => Sum.inl (some (vi z))) (by rw [← hb]; rw [if_pos (Decidable.of_not_not (fun h => g2 (by rw [if_neg h]; decide)))]), rfl⟩
theorem lp_upDown (X : AX) (I J : Nat → Nat → Int) (cc ss : Nat) {D : Nat → Nat → Bool} {P e : Int} (hD : DR I 126 P e D) (hQ4 : 4 ≤ P ∧ P ≤ 32) (hsup : ∀ y x : Nat, P ≤ (x : Int) → D y x = false) (k : Nat) (hk : (k : Int) ≤ P) (hq : ∀ q, q < k → ∀ x : Nat, (x : Int) < P → D q x = D (P.toNat - 1 - q) x) : Ev X k_X0_isSameUpsideDown (2, [some (vr 126), some (vi (k : Int))], []) (MS I J cc ss) (fun o T => o = .inl (some (vi (if mirB D P.toNat true = true then 1 else 0))) ∧ T = MS I J cc ss) := by
  refine ev_n (fr' := (7, [some (vr 126), some (vi (k : Int))], [vi (I 126 1), vi (k : Int)])) (S' := MS I J cc ss) 3 rfl ?_
  refine ev_eqi (hD.1) ?_
  show Ev X k_X0_isSameUpsideDown (7, [some (vr 126), some (vi (k : Int))], [vi P, vi (k : Int)]) (MS I J cc ss) _
  refine ev_ic (c := .ge) (off := 31) rfl (by decide) (fun (g1 : P ≤ (k : Int)) => ?_) (fun (g1 : ¬ (P ≤ (k : Int))) => ?_)
  · show Ev X k_X0_isSameUpsideDown (38, [some (vr 126), some (vi (k : Int))], []) (MS I J cc ss) _
    refine ev_n (fr' := (39, [some (vr 126), some (vi (k : Int))], [vi 1])) (S' := MS I J cc ss) 1 rfl ?_
    refine ev_r rfl rfl rfl ?_
    exact ⟨congrArg (fun z => Sum.inl (some (vi z))) (if_pos (mir_true.mpr (fun y x hy hx => hq y (by omega) x (by omega)))).symm, rfl⟩
  · show Ev X k_X0_isSameUpsideDown (10, [some (vr 126), some (vi (k : Int))], []) (MS I J cc ss) _
    refine ev_n (fr' := (12, [some (vr 126), some (vi (k : Int))], [vi (k : Int), vr 126])) (S' := MS I J cc ss) 2 rfl ?_
    refine ev_cv rfl rfl rfl ⟨Nat.le_of_ble_eq_true rfl, Nat.le_of_ble_eq_true rfl⟩ (sp_rowAt_126 X _ _ _ _ k (by omega)) ?_
    show Ev X k_X0_isSameUpsideDown (15, [some (vr 126), some (vi (k : Int))], [vi (I 127 k)]) (MS I J cc ss) _
    refine ev_n (fr' := (20, [some (vr 126), some (vi (k : Int))], [vi (I 126 1), vr 126, vi (I 127 k)])) (S' := MS I J cc ss) 3 rfl ?_
    refine ev_eqi (hD.1) ?_
    show Ev X k_X0_isSameUpsideDown (20, [some (vr 126), some (vi (k : Int))], [vi P, vr 126, vi (I 127 k)]) (MS I J cc ss) _
    refine ev_n (fr' := (21, [some (vr 126), some (vi (k : Int))], [vi 1, vi P, vr 126, vi (I 127 k)])) (S' := MS I J cc ss) 1 rfl ?_
    refine ev_sub (z := P - 1) rfl (by omega) (by omega) (by omega) ?_
    show Ev X k_X0_isSameUpsideDown (22, [some (vr 126), some (vi (k : Int))], [vi (P - 1), vr 126, vi (I 127 k)]) (MS I J cc ss) _
    refine ev_n (fr' := (23, [some (vr 126), some (vi (k : Int))], [vi (k : Int), vi (P - 1), vr 126, vi (I 127 k)])) (S' := MS I J cc ss) 1 rfl ?_
    refine ev_sub (z := P - (k : Int) - 1) rfl (by omega) (by omega) (by omega) ?_
    show Ev X k_X0_isSameUpsideDown (24, [some (vr 126), some (vi (k : Int))], [vi (P - (k : Int) - 1), vr 126, vi (I 127 k)]) (MS I J cc ss) _
    rw [show P - (k : Int) - 1 = ((P.toNat - 1 - k : Nat) : Int) by omega]
    refine ev_cv rfl rfl rfl ⟨Nat.le_of_ble_eq_true rfl, Nat.le_of_ble_eq_true rfl⟩ (sp_rowAt_126 X _ _ _ _ (P.toNat - 1 - k) (by omega)) ?_
    show Ev X k_X0_isSameUpsideDown (27, [some (vr 126), some (vi (k : Int))], [vi (I 127 (P.toNat - 1 - k)), vi (I 127 k)]) (MS I J cc ss) _
    refine ev_ic (c := .eq) (off := 5) rfl (by decide) (fun (g2 : (I 127 k) = (I 127 (P.toNat - 1 - k))) => ?_) (fun (g2 : ¬ ((I 127 k) = (I 127 (P.toNat - 1 - k)))) => ?_)
    · show Ev X k_X0_isSameUpsideDown (32, [some (vr 126), some (vi (k : Int))], []) (MS I J cc ss) _
      refine ev_inc (z := (k : Int) + 1) rfl rfl (by omega) (by omega) (by omega) rfl ?_
      show Ev X k_X0_isSameUpsideDown (35, [some (vr 126), some (vi ((k : Int) + 1))], []) (MS I J cc ss) _
      refine ev_n (fr' := (2, [some (vr 126), some (vi ((k : Int) + 1))], [])) (S' := MS I J cc ss) 1 rfl ?_
      exact lp_upDown X _ _ cc ss hD hQ4 hsup (k + 1) (by omega) (nlt_succ hq (fun x hx => (row_eq hD (by omega) (by omega)).mp g2 x (by omega)))
    · show Ev X k_X0_isSameUpsideDown (30, [some (vr 126), some (vi (k : Int))], []) (MS I J cc ss) _
      refine ev_n (fr' := (31, [some (vr 126), some (vi (k : Int))], [vi 0])) (S' := MS I J cc ss) 1 rfl ?_
      refine ev_r rfl rfl rfl ?_
      exact ⟨congrArg (fun z => Sum.inl (some (vi z))) (if_neg (fun h => g2 ((row_eq hD (by omega) (by omega)).mpr (fun x hx => by
        by_cases hxP : (x : Int) < P
        · have := mir_true.mp h k x (by omega) (by omega)
          rw [if_pos rfl] at this; rw [this]
        · rw [hsup _ _ (by omega), hsup _ _ (by omega)])))).symm, rfl⟩
termination_by 40 - k
decreasing_by all_goals omega
theorem sp_upDown (X : AX) (I J : Nat → Nat → Int) (cc ss : Nat) {D : Nat → Nat → Bool} {P e : Int} (hD : DR I 126 P e D) (hQ4 : 4 ≤ P ∧ P ≤ 32) (hsup : ∀ y x : Nat, P ≤ (x : Int) → D y x = false) : Ev X k_X0_isSameUpsideDown (0, [some (vr 126), none], []) (MS I J cc ss) (fun o T => o = .inl (some (vi (if mirB D P.toNat true = true then 1 else 0))) ∧ T = MS I J cc ss) := by
  refine ev_n (fr' := (2, [some (vr 126), some (vi 0)], [])) (S' := MS I J cc ss) 2 rfl ?_
  exact lp_upDown X _ _ cc ss hD hQ4 hsup 0 (by omega) (fun q h => absurd h (by omega))
theorem ite_eqB {a b : Bool} (h : (if a = true then (1 : Int) else 0) = (if b = true then 1 else 0)) : a = b := by
  cases a <;> cases b <;> simp_all
theorem li_leftRight (X : AX) (I J : Nat → Nat → Int) (cc ss : Nat) {Q : (Option AV ⊕ Nat) → AS → Prop} {D : Nat → Nat → Bool} {P e : Int} (hD : DR I 126 P e D) (hQ4 : 4 ≤ P ∧ P ≤ 32) (k : Nat) (hk : (k : Int) < P) (j : Nat) (hjk : (j : Int) ≤ P) (hj : ∀ q, q < j → D k q = D k (P.toNat - 1 - q)) (KF : ∀ x : Nat, (x : Int) < P → D k x ≠ D k (P.toNat - 1 - x) → Q (.inl (some (vi 0))) (MS I J cc ss)) (K : ∀ j : Nat, (j : Int) = P → (∀ q, q < j → D k q = D k (P.toNat - 1 - q)) → Ev X k_X0_isSameLeftToRight (50, [some (vr 126), some (vi (k : Int)), some (vi (j : Int))], []) (MS I J cc ss) Q) : Ev X k_X0_isSameLeftToRight (12, [some (vr 126), some (vi (k : Int)), some (vi (j : Int))], []) (MS I J cc ss) (Q) := by
  refine ev_n (fr' := (17, [some (vr 126), some (vi (k : Int)), some (vi (j : Int))], [vi (I 126 1), vi (j : Int)])) (S' := MS I J cc ss) 3 rfl ?_
  refine ev_eqi (hD.1) ?_
  show Ev X k_X0_isSameLeftToRight (17, [some (vr 126), some (vi (k : Int)), some (vi (j : Int))], [vi P, vi (j : Int)]) (MS I J cc ss) _
  refine ev_ic (c := .ge) (off := 33) rfl (by decide) (fun (g1 : P ≤ (j : Int)) => ?_) (fun (g1 : ¬ (P ≤ (j : Int))) => ?_)
  · show Ev X k_X0_isSameLeftToRight (50, [some (vr 126), some (vi (k : Int)), some (vi (j : Int))], []) (MS I J cc ss) _
    exact K j (by omega) hj
  · show Ev X k_X0_isSameLeftToRight (20, [some (vr 126), some (vi (k : Int)), some (vi (j : Int))], []) (MS I J cc ss) _
    refine ev_n (fr' := (23, [some (vr 126), some (vi (k : Int)), some (vi (j : Int))], [vi (k : Int), vi (j : Int), vr 126])) (S' := MS I J cc ss) 3 rfl ?_
    refine ev_cv rfl rfl rfl ⟨Nat.le_of_ble_eq_true rfl, Nat.le_of_ble_eq_true rfl⟩ (sp_hasInk_126 X _ _ _ _ j k hD (by omega) (by omega)) ?_
    show Ev X k_X0_isSameLeftToRight (26, [some (vr 126), some (vi (k : Int)), some (vi (j : Int))], [vi (if D k j = true then 1 else 0)]) (MS I J cc ss) _
    refine ev_n (fr' := (31, [some (vr 126), some (vi (k : Int)), some (vi (j : Int))], [vi (I 126 1), vr 126, vi (if D k j = true then 1 else 0)])) (S' := MS I J cc ss) 3 rfl ?_
    refine ev_eqi (hD.1) ?_
    show Ev X k_X0_isSameLeftToRight (31, [some (vr 126), some (vi (k : Int)), some (vi (j : Int))], [vi P, vr 126, vi (if D k j = true then 1 else 0)]) (MS I J cc ss) _
    refine ev_n (fr' := (32, [some (vr 126), some (vi (k : Int)), some (vi (j : Int))], [vi 1, vi P, vr 126, vi (if D k j = true then 1 else 0)])) (S' := MS I J cc ss) 1 rfl ?_
    refine ev_sub (z := P - 1) rfl (by omega) (by omega) (by omega) ?_
    show Ev X k_X0_isSameLeftToRight (33, [some (vr 126), some (vi (k : Int)), some (vi (j : Int))], [vi (P - 1), vr 126, vi (if D k j = true then 1 else 0)]) (MS I J cc ss) _
    refine ev_n (fr' := (34, [some (vr 126), some (vi (k : Int)), some (vi (j : Int))], [vi (j : Int), vi (P - 1), vr 126, vi (if D k j = true then 1 else 0)])) (S' := MS I J cc ss) 1 rfl ?_
    refine ev_sub (z := P - (j : Int) - 1) rfl (by omega) (by omega) (by omega) ?_
    show Ev X k_X0_isSameLeftToRight (35, [some (vr 126), some (vi (k : Int)), some (vi (j : Int))], [vi (P - (j : Int) - 1), vr 126, vi (if D k j = true then 1 else 0)]) (MS I J cc ss) _
    refine ev_n (fr' := (36, [some (vr 126), some (vi (k : Int)), some (vi (j : Int))], [vi (k : Int), vi (P - (j : Int) - 1), vr 126, vi (if D k j = true then 1 else 0)])) (S' := MS I J cc ss) 1 rfl ?_
    rw [show P - (j : Int) - 1 = ((P.toNat - 1 - j : Nat) : Int) by omega]
    refine ev_cv rfl rfl rfl ⟨Nat.le_of_ble_eq_true rfl, Nat.le_of_ble_eq_true rfl⟩ (sp_hasInk_126 X _ _ _ _ (P.toNat - 1 - j) k hD (by omega) (by omega)) ?_
    show Ev X k_X0_isSameLeftToRight (39, [some (vr 126), some (vi (k : Int)), some (vi (j : Int))], [vi (if D k (P.toNat - 1 - j) = true then 1 else 0), vi (if D k j = true then 1 else 0)]) (MS I J cc ss) _
    refine ev_ic (c := .eq) (off := 5) rfl (by decide) (fun (g2 : (if D k j = true then 1 else 0) = (if D k (P.toNat - 1 - j) = true then 1 else 0)) => ?_) (fun (g2 : ¬ ((if D k j = true then 1 else 0) = (if D k (P.toNat - 1 - j) = true then 1 else 0))) => ?_)
    · show Ev X k_X0_isSameLeftToRight (44, [some (vr 126), some (vi (k : Int)), some (vi (j : Int))], []) (MS I J cc ss) _
      refine ev_inc (z := (j : Int) + 1) rfl rfl (by omega) (by omega) (by omega) rfl ?_
      show Ev X k_X0_isSameLeftToRight (47, [some (vr 126), some (vi (k : Int)), some (vi ((j : Int) + 1))], []) (MS I J cc ss) _
      refine ev_n (fr' := (12, [some (vr 126), some (vi (k : Int)), some (vi ((j : Int) + 1))], [])) (S' := MS I J cc ss) 1 rfl ?_
      exact li_leftRight X _ _ cc ss hD hQ4 k hk (j + 1) (by omega) (nlt_succ hj (ite_eqB g2)) KF K
    · show Ev X k_X0_isSameLeftToRight (42, [some (vr 126), some (vi (k : Int)), some (vi (j : Int))], []) (MS I J cc ss) _
      refine ev_n (fr' := (43, [some (vr 126), some (vi (k : Int)), some (vi (j : Int))], [vi 0])) (S' := MS I J cc ss) 1 rfl ?_
      refine ev_r rfl rfl rfl ?_
      exact KF j (by omega) (fun h => g2 (by rw [h]))
termination_by 40 - j
decreasing_by all_goals omega
theorem lp_leftRight (X : AX) (I J : Nat → Nat → Int) (cc ss : Nat) {D : Nat → Nat → Bool} {P e : Int} (hD : DR I 126 P e D) (hQ4 : 4 ≤ P ∧ P ≤ 32) (k : Nat) (v2 : Option AV) (hk : (k : Int) ≤ P) (hq : ∀ q, q < k → ∀ x : Nat, (x : Int) < P → D q x = D q (P.toNat - 1 - x)) : Ev X k_X0_isSameLeftToRight (2, [some (vr 126), some (vi (k : Int)), v2], []) (MS I J cc ss) (fun o T => o = .inl (some (vi (if mirB D P.toNat false = true then 1 else 0))) ∧ T = MS I J cc ss) := by
  refine ev_n (fr' := (7, [some (vr 126), some (vi (k : Int)), v2], [vi (I 126 1), vi (k : Int)])) (S' := MS I J cc ss) 3 rfl ?_
  refine ev_eqi (hD.1) ?_
  show Ev X k_X0_isSameLeftToRight (7, [some (vr 126), some (vi (k : Int)), v2], [vi P, vi (k : Int)]) (MS I J cc ss) _
  refine ev_ic (c := .ge) (off := 49) rfl (by decide) (fun (g1 : P ≤ (k : Int)) => ?_) (fun (g1 : ¬ (P ≤ (k : Int))) => ?_)
  · show Ev X k_X0_isSameLeftToRight (56, [some (vr 126), some (vi (k : Int)), v2], []) (MS I J cc ss) _
    refine ev_n (fr' := (57, [some (vr 126), some (vi (k : Int)), v2], [vi 1])) (S' := MS I J cc ss) 1 rfl ?_
    refine ev_r rfl rfl rfl ?_
    exact ⟨congrArg (fun z => Sum.inl (some (vi z))) (if_pos (mir_true.mpr (fun y x hy hx => by rw [if_neg (by decide)]; exact hq y (by omega) x (by omega)))).symm, rfl⟩
  · show Ev X k_X0_isSameLeftToRight (10, [some (vr 126), some (vi (k : Int)), v2], []) (MS I J cc ss) _
    refine ev_n (fr' := (12, [some (vr 126), some (vi (k : Int)), some (vi 0)], [])) (S' := MS I J cc ss) 2 rfl ?_
    refine li_leftRight X _ _ cc ss hD hQ4 k (by omega) 0 (by omega) (fun q h => absurd h (by omega)) (fun x hx hne => ⟨congrArg (fun z => Sum.inl (some (vi z))) (if_neg (fun h => hne (by have := mir_true.mp h k x (by omega) (by omega); rwa [if_neg (by decide)] at this))).symm, rfl⟩) (fun j hjk hj => ?_)
    show Ev X k_X0_isSameLeftToRight (50, [some (vr 126), some (vi (k : Int)), some (vi (j : Int))], []) (MS I J cc ss) _
    refine ev_inc (z := (k : Int) + 1) rfl rfl (by omega) (by omega) (by omega) rfl ?_
    show Ev X k_X0_isSameLeftToRight (53, [some (vr 126), some (vi ((k : Int) + 1)), some (vi (j : Int))], []) (MS I J cc ss) _
    refine ev_n (fr' := (2, [some (vr 126), some (vi ((k : Int) + 1)), some (vi (j : Int))], [])) (S' := MS I J cc ss) 1 rfl ?_
    exact lp_leftRight X _ _ cc ss hD hQ4 (k + 1) _ (by omega) (nlt_succ hq (fun x hx => hj x (by omega)))
termination_by 40 - k
decreasing_by all_goals omega
theorem sp_leftRight (X : AX) (I J : Nat → Nat → Int) (cc ss : Nat) {D : Nat → Nat → Bool} {P e : Int} (hD : DR I 126 P e D) (hQ4 : 4 ≤ P ∧ P ≤ 32) : Ev X k_X0_isSameLeftToRight (0, [some (vr 126), none, none], []) (MS I J cc ss) (fun o T => o = .inl (some (vi (if mirB D P.toNat false = true then 1 else 0))) ∧ T = MS I J cc ss) := by
  refine ev_n (fr' := (2, [some (vr 126), some (vi 0), none], [])) (S' := MS I J cc ss) 2 rfl ?_
  exact lp_leftRight X _ _ cc ss hD hQ4 0 _ (by omega) (fun q h => absurd h (by omega))
