/-! THE REFERENCE'S LEXER: signs, numbers (printed by gen/g90.py) -/
theorem pnU_ok {tx : F1} {n s : Nat} {neg : Bool} {lo hi : Int} {e : Nat} {v : Int} (h : pnU tx n neg lo hi s = .inl (e, v)) : lo ≤ v ∧ v ≤ hi ∧ e = diF tx n s ∧ e ≠ s := by
  unfold pnU at h
  by_cases h1 : diF tx n s = s
  · rw [if_pos h1] at h; cases h
  · rw [if_neg h1] at h
    split at h
    · rename_i h2
      cases h
      exact ⟨h2.1, h2.2, rfl, h1⟩
    · cases h
theorem pnU_er {tx : F1} {n s : Nat} {neg : Bool} {lo hi : Int} {c : Int} {q : Nat} (h : pnU tx n neg lo hi s = .inr (c, q)) : (c = -2 ∨ c = -3) ∧ q = s := by
  unfold pnU at h
  by_cases h1 : diF tx n s = s
  · rw [if_pos h1] at h; cases h; exact ⟨Or.inl rfl, rfl⟩
  · rw [if_neg h1] at h
    split at h
    · cases h
    · cases h; exact ⟨Or.inr rfl, rfl⟩
theorem nu_pos {tx : F1} {n s : Nat} : 0 ≤ nuF tx s (diF tx n s - s) := nuF_rng _ (fun q h1 h2 => scF_all s q h1 (show q < diF tx n s by have := diF_ge (tx := tx) (n := n) s; omega))
theorem pnU_neg {tx : F1} {n s : Nat} {hi : Int} : pnU tx n true (-hi) hi s = (match pnU tx n false 0 hi s with | .inl (e, v) => .inl (e, -v) | .inr x => .inr x) := by
  have h0 := nu_pos (tx := tx) (n := n) (s := s)
  unfold pnU
  by_cases h1 : diF tx n s = s
  · rw [if_pos h1, if_pos h1]
  · rw [if_neg h1, if_neg h1, sgF_t, sgF_f]
    by_cases h2 : nuF tx s (diF tx n s - s) ≤ hi
    · rw [if_pos ⟨by omega, by omega⟩, if_pos ⟨h0, h2⟩]
    · rw [if_neg (fun q => h2 (by omega)), if_neg (fun q => h2 q.2)]
theorem pnU_pos {tx : F1} {n s : Nat} {hi : Int} (hh : 0 ≤ hi) : pnU tx n false (-hi) hi s = pnU tx n false 0 hi s := by
  have h0 := nu_pos (tx := tx) (n := n) (s := s)
  unfold pnU
  by_cases h1 : diF tx n s = s
  · rw [if_pos h1, if_pos h1]
  · rw [if_neg h1, if_neg h1, sgF_f]
    by_cases h2 : nuF tx s (diF tx n s - s) ≤ hi
    · rw [if_pos ⟨by omega, h2⟩, if_pos ⟨h0, h2⟩]
    · rw [if_neg (fun q => h2 q.2), if_neg (fun q => h2 q.2)]
theorem pnF_a {tx : F1} {n a : Nat} {lo hi : Int} (hs : spF tx n a = a) (h : ¬ (lo < 0 ∧ atF tx n a = 45)) : pnF tx n lo hi a = pnU tx n false lo hi a := by
  have hN : ngB tx n a lo = false := by
    unfold ngB; rw [hs]
    by_cases h1 : lo < 0
    · rw [decide_eq_false (fun q => h ⟨h1, q⟩), Bool.and_false]
    · rw [decide_eq_false h1, Bool.false_and]
  unfold pnF nsF; rw [hN, if_neg (by decide), hs]
theorem pnF_b {tx : F1} {n a : Nat} {lo hi : Int} (hs : spF tx n a = a) (h1 : lo < 0) (h : atF tx n a = 45) : pnF tx n lo hi a = pnU tx n true lo hi (spF tx n (a + 1)) := by
  have hN : ngB tx n a lo = true := by unfold ngB; rw [hs, decide_eq_true h1, decide_eq_true h]; rfl
  unfold pnF nsF; rw [hN, if_pos rfl, hs]
theorem pnF_sp {tx : F1} {n a : Nat} {lo hi : Int} : pnF tx n lo hi (spF tx n a) = pnF tx n lo hi a := by
  unfold pnF nsF ngB; rw [spF_idem]
theorem sg_at {tx : F1} {n a : Nat} {c : Int} (h1 : isLe c = false) (h2 : isDi c = false) (h3 : 0 ≤ c) : atF tx n a = c ↔ kdF tx n a = 2 ∧ tx a = c := by
  by_cases h : a < n
  · rw [atF_in h]
    exact ⟨fun q => ⟨kd_2.mpr ⟨h, by rw [q]; exact h1, by rw [q]; exact h2⟩, q⟩, fun q => q.2⟩
  · rw [atF_out (by omega)]
    exact ⟨fun q => by omega, fun q => absurd (kd_2.mp q.1).1 h⟩
def EE (I : F2) (c : Int) (p : Nat) : Prop := I 135 11 = c ∧ c ≠ 0 ∧ I 135 12 = (p : Int)
def RN (I I' J J' : F2) (tx : F1) (n : Nat) (r : (Nat × Int) ⊕ (Int × Nat)) (z : Int) : Prop := onlyL I I' J J' ∧ match r with
  | .inl (e, v) => z = v ∧ TK I' J' tx n (spF tx n e) ∧ I' 135 11 = 0 ∧ e ≤ n
  | .inr (c, s) => z = 0 ∧ EE I' c s
def RO (I I' J J' : F2) (tx : F1) (n : Nat) (r : Nat ⊕ (Int × Nat)) : Prop := onlyL I I' J J' ∧ match r with
  | .inl e => TK I' J' tx n (spF tx n e) ∧ I' 135 11 = 0 ∧ e ≤ n
  | .inr (c, s) => EE I' c s
theorem EE.mk {I : F2} {c : Int} {p : Nat} (hc : c ≠ 0) : EE (up2 (up2 I 135 11 c) 135 12 (p : Int)) c p := ⟨by rw [up2_ne2 _ _ _ _ (by decide), up2_same], hc, up2_same _ _ _ _⟩
theorem EE.ne {I : F2} {c : Int} {p : Nat} (h : EE I c p) : I 135 11 ≠ 0 := by rw [h.1]; exact h.2.1
theorem onlyL.e {I0 I J0 J : F2} {c : Int} {p : Int} (h : onlyL I0 I J0 J) : onlyL I0 (up2 (up2 I 135 11 c) 135 12 p) J0 J := (h.u (by omega)).u (by omega)
theorem sp_fails (X : AX) (I J : Nat → Nat → Int) (cc ss : Nat) (c : Int) (a : Nat) (hw0 : I 135 11 = 0) (h8 : I 135 8 = (a : Int)) : Ev X k_X9_fails (0, [some (vr 135), some (vi c)], []) (MS I J cc ss) (fun o T => o = .inl none ∧ T = MS (up2 (up2 I 135 11 c) 135 12 (a : Int)) J cc ss) := by
  refine ev_n (fr' := (4, [some (vr 135), some (vi c)], [vi (I 135 11)])) (S' := MS I J cc ss) 2 rfl ?_
  refine ev_eqi (hw0) ?_
  show Ev X k_X9_fails (4, [some (vr 135), some (vi c)], [vi 0]) (MS I J cc ss) _
  refine ev_n (fr' := (10, [some (vr 135), some (vi c)], [vi c, vr 135])) (S' := MS I J cc ss) 3 rfl ?_
  refine ev_n (fr' := (13, [some (vr 135), some (vi c)], [])) (S' := MS (up2 I 135 11 c) J cc ss) 1 rfl ?_
  refine ev_n (fr' := (18, [some (vr 135), some (vi c)], [vi (I 135 8), vr 135])) (S' := MS (up2 I 135 11 c) J cc ss) 3 rfl ?_
  refine ev_eqi (h8) ?_
  show Ev X k_X9_fails (18, [some (vr 135), some (vi c)], [vi (a : Int), vr 135]) (MS (up2 I 135 11 c) J cc ss) _
  refine ev_n (fr' := (21, [some (vr 135), some (vi c)], [])) (S' := MS (up2 (up2 I 135 11 c) 135 12 (a : Int)) J cc ss) 1 rfl ?_
  refine ev_r rfl rfl rfl ?_
  exact ⟨rfl, rfl⟩
theorem sp_failsE (X : AX) (I J : Nat → Nat → Int) (cc ss : Nat) (c : Int) (hwE : I 135 11 ≠ 0) : Ev X k_X9_fails (0, [some (vr 135), some (vi c)], []) (MS I J cc ss) (fun o T => o = .inl none ∧ T = MS I J cc ss) := by
  refine ev_n (fr' := (4, [some (vr 135), some (vi c)], [vi (I 135 11)])) (S' := MS I J cc ss) 2 rfl ?_
  refine ev_if (c := .eq) (off := 4) rfl (by decide) (fun (g1 : (I 135 11) = 0) => False.elim (hwE g1)) (fun (g1 : ¬ ((I 135 11) = 0)) => ?_)
  show Ev X k_X9_fails (7, [some (vr 135), some (vi c)], []) (MS I J cc ss) _
  refine ev_r rfl rfl rfl ?_
  exact ⟨rfl, rfl⟩
theorem sp_isSign (X : AX) (I J : Nat → Nat → Int) (cc ss : Nat) {tx : F1} {n : Nat} (hR : RB I tx n) (a : Nat) (hK : TK I J tx n a) (hw0 : I 135 11 = 0) (c : Int) (hc1 : isLe c = false) (hc2 : isDi c = false) (hc3 : 0 ≤ c) : Ev X k_X9_isSign (0, [some (vr 135), some (vi c)], []) (MS I J cc ss) (fun o T => o = .inl (some (vi (if atF tx n a = c then 1 else 0))) ∧ T = MS I J cc ss) := by
  obtain ⟨ha, hsa, h8, h9, h10, hno⟩ := hK
  obtain ⟨h900, h7, hbf⟩ := hR
  refine ev_n (fr' := (4, [some (vr 135), some (vi c)], [vi (I 135 11)])) (S' := MS I J cc ss) 2 rfl ?_
  refine ev_eqi (hw0) ?_
  show Ev X k_X9_isSign (4, [some (vr 135), some (vi c)], [vi 0]) (MS I J cc ss) _
  refine ev_n (fr' := (11, [some (vr 135), some (vi c)], [vi (I 135 10)])) (S' := MS I J cc ss) 3 rfl ?_
  refine ev_eqi (h10) ?_
  show Ev X k_X9_isSign (11, [some (vr 135), some (vi c)], [vi (kdF tx n a)]) (MS I J cc ss) _
  refine ev_n (fr' := (12, [some (vr 135), some (vi c)], [vi 2, vi (kdF tx n a)])) (S' := MS I J cc ss) 1 rfl ?_
  refine ev_ic (c := .ne) (off := 20) rfl (by decide) (fun (g1 : (kdF tx n a) ≠ 2) => ?_) (fun (g1 : ¬ ((kdF tx n a) ≠ 2)) => ?_)
  · show Ev X k_X9_isSign (32, [some (vr 135), some (vi c)], []) (MS I J cc ss) _
    refine ev_n (fr' := (33, [some (vr 135), some (vi c)], [vi 0])) (S' := MS I J cc ss) 1 rfl ?_
    refine ev_r rfl rfl rfl ?_
    exact ⟨congrArg (fun z => Sum.inl (some (vi z))) (if_neg (fun q => by have := (sg_at hc1 hc2 hc3).mp q; omega)).symm, rfl⟩
  · show Ev X k_X9_isSign (15, [some (vr 135), some (vi c)], []) (MS I J cc ss) _
    have hlt := (kd_2.mp (Decidable.of_not_not g1)).1
    refine ev_n (fr' := (23, [some (vr 135), some (vi c)], [vi (I 135 8), vr 139])) (S' := MS I J cc ss) 4 rfl ?_
    refine ev_eqi (h8) ?_
    show Ev X k_X9_isSign (23, [some (vr 135), some (vi c)], [vi (a : Int), vr 139]) (MS I J cc ss) _
    refine ev_iaN (j := a) (z := (tx a)) rfl rfl (by omega) (by omega) ((hbf _ (by omega)).1) ?_
    show Ev X k_X9_isSign (24, [some (vr 135), some (vi c)], [vi (tx a)]) (MS I J cc ss) _
    refine ev_n (fr' := (25, [some (vr 135), some (vi c)], [vi c, vi (tx a)])) (S' := MS I J cc ss) 1 rfl ?_
    refine ev_ic (c := .ne) (off := 7) rfl (by decide) (fun (g2 : (tx a) ≠ c) => ?_) (fun (g2 : ¬ ((tx a) ≠ c)) => ?_)
    · show Ev X k_X9_isSign (32, [some (vr 135), some (vi c)], []) (MS I J cc ss) _
      refine ev_n (fr' := (33, [some (vr 135), some (vi c)], [vi 0])) (S' := MS I J cc ss) 1 rfl ?_
      refine ev_r rfl rfl rfl ?_
      exact ⟨congrArg (fun z => Sum.inl (some (vi z))) (if_neg (fun q => by have := (sg_at hc1 hc2 hc3).mp q; omega)).symm, rfl⟩
    · show Ev X k_X9_isSign (28, [some (vr 135), some (vi c)], []) (MS I J cc ss) _
      refine ev_n (fr' := (33, [some (vr 135), some (vi c)], [vi 1])) (S' := MS I J cc ss) 2 rfl ?_
      refine ev_r rfl rfl rfl ?_
      exact ⟨congrArg (fun z => Sum.inl (some (vi z))) (if_pos ((sg_at hc1 hc2 hc3).mpr ⟨by omega, by omega⟩)).symm, rfl⟩
theorem sp_isSignE (X : AX) (I J : Nat → Nat → Int) (cc ss : Nat) (c : Int) (hwE : I 135 11 ≠ 0) : Ev X k_X9_isSign (0, [some (vr 135), some (vi c)], []) (MS I J cc ss) (fun o T => o = .inl (some (vi 0)) ∧ T = MS I J cc ss) := by
  refine ev_n (fr' := (4, [some (vr 135), some (vi c)], [vi (I 135 11)])) (S' := MS I J cc ss) 2 rfl ?_
  refine ev_if (c := .ne) (off := 28) rfl (by decide) (fun (g1 : (I 135 11) ≠ 0) => ?_) (fun (g1 : ¬ ((I 135 11) ≠ 0)) => False.elim (g1 hwE))
  show Ev X k_X9_isSign (32, [some (vr 135), some (vi c)], []) (MS I J cc ss) _
  refine ev_n (fr' := (33, [some (vr 135), some (vi c)], [vi 0])) (S' := MS I J cc ss) 1 rfl ?_
  refine ev_r rfl rfl rfl ?_
  exact ⟨rfl, rfl⟩
theorem sp_mustT (X : AX) (I J : Nat → Nat → Int) (cc ss : Nat) {tx : F1} {n : Nat} (hR : RB I tx n) (a : Nat) (hK : TK I J tx n a) (hw0 : I 135 11 = 0) : Ev X k_X9_must (0, [some (vr 135), some (vi 1)], []) (MS I J cc ss) (PV cc ss none (fun I' J' => TK I' J' tx n (spF tx n (enF tx n a)) ∧ onlyL I I' J J' ∧ I' 135 11 = 0)) := by
  have h900 := hR.1
  obtain ⟨ha, hsa, h8, h9, h10, hno⟩ := hK
  refine ev_n (fr' := (14, [some (vr 135), some (vi 1)], [vi (I 135 11)])) (S' := MS I J cc ss) 4 rfl ?_
  refine ev_eqi (hw0) ?_
  show Ev X k_X9_must (14, [some (vr 135), some (vi 1)], [vi 0]) (MS I J cc ss) _
  refine ev_n (fr' := (18, [some (vr 135), some (vi 1)], [vr 135])) (S' := MS I J cc ss) 2 rfl ?_
  refine ev_cp rfl rfl rfl ⟨Nat.le_of_ble_eq_true rfl, Nat.le_of_ble_eq_true rfl⟩ (sp_next X _ _ _ _ hR (enF tx n a) (en_le ha).2 h9) (fun I1 J2 q3 => ?_)
  obtain ⟨hK9, hO9, hw9⟩ := q3
  show Ev X k_X9_must (21, [some (vr 135), some (vi 1)], []) (MS I1 J2 cc ss) _
  refine ev_r rfl rfl rfl ?_
  exact ⟨_, _, rfl, rfl, hK9, hO9, hw9.trans hw0⟩
theorem sp_mustF (X : AX) (I J : Nat → Nat → Int) (cc ss : Nat) (a : Nat) (hw0 : I 135 11 = 0) (h8 : I 135 8 = (a : Int)) : Ev X k_X9_must (0, [some (vr 135), some (vi 0)], []) (MS I J cc ss) (fun o T => o = .inl none ∧ T = MS (up2 (up2 I 135 11 (-2)) 135 12 (a : Int)) J cc ss) := by
  refine ev_n (fr' := (7, [some (vr 135), some (vi 0)], [vi (-2), vr 135])) (S' := MS I J cc ss) 4 rfl ?_
  refine ev_cv rfl rfl rfl ⟨Nat.le_of_ble_eq_true rfl, Nat.le_of_ble_eq_true rfl⟩ (sp_fails X _ _ _ _ (-2) a hw0 h8) ?_
  show Ev X k_X9_must (10, [some (vr 135), some (vi 0)], []) (MS (up2 (up2 I 135 11 (-2)) 135 12 (a : Int)) J cc ss) _
  refine ev_n (fr' := (21, [some (vr 135), some (vi 0)], [])) (S' := MS (up2 (up2 I 135 11 (-2)) 135 12 (a : Int)) J cc ss) 3 rfl ?_
  refine ev_r rfl rfl rfl ?_
  exact ⟨rfl, rfl⟩
theorem sp_mustE0 (X : AX) (I J : Nat → Nat → Int) (cc ss : Nat) (hwE : I 135 11 ≠ 0) : Ev X k_X9_must (0, [some (vr 135), some (vi 0)], []) (MS I J cc ss) (fun o T => o = .inl none ∧ T = MS I J cc ss) := by
  refine ev_n (fr' := (7, [some (vr 135), some (vi 0)], [vi (-2), vr 135])) (S' := MS I J cc ss) 4 rfl ?_
  refine ev_cv rfl rfl rfl ⟨Nat.le_of_ble_eq_true rfl, Nat.le_of_ble_eq_true rfl⟩ (sp_failsE X _ _ _ _ (-2) hwE) ?_
  show Ev X k_X9_must (10, [some (vr 135), some (vi 0)], []) (MS I J cc ss) _
  refine ev_n (fr' := (14, [some (vr 135), some (vi 0)], [vi (I 135 11)])) (S' := MS I J cc ss) 2 rfl ?_
  refine ev_if (c := .ne) (off := 7) rfl (by decide) (fun (g1 : (I 135 11) ≠ 0) => ?_) (fun (g1 : ¬ ((I 135 11) ≠ 0)) => False.elim (g1 hwE))
  show Ev X k_X9_must (21, [some (vr 135), some (vi 0)], []) (MS I J cc ss) _
  refine ev_r rfl rfl rfl ?_
  exact ⟨rfl, rfl⟩
theorem sp_mustE1 (X : AX) (I J : Nat → Nat → Int) (cc ss : Nat) (hwE : I 135 11 ≠ 0) : Ev X k_X9_must (0, [some (vr 135), some (vi 1)], []) (MS I J cc ss) (fun o T => o = .inl none ∧ T = MS I J cc ss) := by
  refine ev_n (fr' := (14, [some (vr 135), some (vi 1)], [vi (I 135 11)])) (S' := MS I J cc ss) 4 rfl ?_
  refine ev_if (c := .ne) (off := 7) rfl (by decide) (fun (g1 : (I 135 11) ≠ 0) => ?_) (fun (g1 : ¬ ((I 135 11) ≠ 0)) => False.elim (g1 hwE))
  show Ev X k_X9_must (21, [some (vr 135), some (vi 1)], []) (MS I J cc ss) _
  refine ev_r rfl rfl rfl ?_
  exact ⟨rfl, rfl⟩
theorem sp_takes (X : AX) (I J : Nat → Nat → Int) (cc ss : Nat) {tx : F1} {n : Nat} (hR : RB I tx n) (a : Nat) (hK : TK I J tx n a) (hw0 : I 135 11 = 0) (lo hi : Int) (hlh : 0 ≤ lo ∧ hi < 1000) : Ev X k_X9_takes (0, [some (vr 135), some (vi lo), some (vi hi), none], []) (MS I J cc ss) (PZ cc ss (fun z I' J' => RN I I' J J' tx n (pnU tx n false lo hi a) z)) := by
  have h900 := hR.1
  obtain ⟨ha, hsa, h8, h9, h10, hno⟩ := hK
  obtain ⟨v, hv⟩ : ∃ v, J 135 14 = v := ⟨_, rfl⟩
  rw [hv] at hno
  refine ev_n (fr' := (4, [some (vr 135), some (vi lo), some (vi hi), none], [vi (I 135 11)])) (S' := MS I J cc ss) 2 rfl ?_
  refine ev_eqi (hw0) ?_
  show Ev X k_X9_takes (4, [some (vr 135), some (vi lo), some (vi hi), none], [vi 0]) (MS I J cc ss) _
  refine ev_n (fr' := (11, [some (vr 135), some (vi lo), some (vi hi), none], [vi (I 135 10)])) (S' := MS I J cc ss) 3 rfl ?_
  refine ev_eqi (h10) ?_
  show Ev X k_X9_takes (11, [some (vr 135), some (vi lo), some (vi hi), none], [vi (kdF tx n a)]) (MS I J cc ss) _
  refine ev_n (fr' := (12, [some (vr 135), some (vi lo), some (vi hi), none], [vi 1, vi (kdF tx n a)])) (S' := MS I J cc ss) 1 rfl ?_
  refine ev_ic (c := .eq) (off := 12) rfl (by decide) (fun (g1 : (kdF tx n a) = 1) => ?_) (fun (g1 : ¬ ((kdF tx n a) = 1)) => ?_)
  · show Ev X k_X9_takes (24, [some (vr 135), some (vi lo), some (vi hi), none], []) (MS I J cc ss) _
    refine ev_n (fr' := (28, [some (vr 135), some (vi lo), some (vi hi), none], [vi (I 135 11)])) (S' := MS I J cc ss) 2 rfl ?_
    refine ev_eqi (hw0) ?_
    show Ev X k_X9_takes (28, [some (vr 135), some (vi lo), some (vi hi), none], [vi 0]) (MS I J cc ss) _
    refine ev_n (fr' := (35, [some (vr 135), some (vi lo), some (vi hi), none], [vl (J 135 14)])) (S' := MS I J cc ss) 3 rfl ?_
    refine ev_eql (hv) ?_
    show Ev X k_X9_takes (35, [some (vr 135), some (vi lo), some (vi hi), none], [vl v]) (MS I J cc ss) _
    refine ev_n (fr' := (39, [some (vr 135), some (vi lo), some (vi hi), none], [vl hi, vl lo, vl v])) (S' := MS I J cc ss) 4 rfl ?_
    refine ev_cv rfl rfl rfl ⟨Nat.le_of_ble_eq_true rfl, Nat.le_of_ble_eq_true rfl⟩ (sp_isIn X _ v lo hi ) ?_
    show Ev X k_X9_takes (42, [some (vr 135), some (vi lo), some (vi hi), none], [vi (if lo ≤ v ∧ v ≤ hi then 1 else 0)]) (MS I J cc ss) _
    refine ev_bne _ rfl (by decide) (fun (g2 : lo ≤ v ∧ v ≤ hi) => ?_) (fun (g2 : ¬ (lo ≤ v ∧ v ≤ hi)) => ?_)
    · show Ev X k_X9_takes (51, [some (vr 135), some (vi lo), some (vi hi), none], []) (MS I J cc ss) _
      refine ev_n (fr' := (55, [some (vr 135), some (vi lo), some (vi hi), none], [vi (I 135 11)])) (S' := MS I J cc ss) 2 rfl ?_
      refine ev_eqi (hw0) ?_
      show Ev X k_X9_takes (55, [some (vr 135), some (vi lo), some (vi hi), none], [vi 0]) (MS I J cc ss) _
      refine ev_n (fr' := (58, [some (vr 135), some (vi lo), some (vi hi), none], [])) (S' := MS I J cc ss) 1 rfl ?_
      refine ev_n (fr' := (62, [some (vr 135), some (vi lo), some (vi hi), none], [vl (J 135 14)])) (S' := MS I J cc ss) 2 rfl ?_
      refine ev_eql (hv) ?_
      show Ev X k_X9_takes (62, [some (vr 135), some (vi lo), some (vi hi), none], [vl v]) (MS I J cc ss) _
      refine ev_l2i rfl (by have := hno (by assumption); unfold nOK at this; omega) (by have := hno (by assumption); unfold nOK at this; omega) ?_
      show Ev X k_X9_takes (63, [some (vr 135), some (vi lo), some (vi hi), none], [vi v]) (MS I J cc ss) _
      refine ev_n (fr' := (72, [some (vr 135), some (vi lo), some (vi hi), some (vi v)], [vi (I 135 11)])) (S' := MS I J cc ss) 4 rfl ?_
      refine ev_eqi (hw0) ?_
      show Ev X k_X9_takes (72, [some (vr 135), some (vi lo), some (vi hi), some (vi v)], [vi 0]) (MS I J cc ss) _
      refine ev_n (fr' := (76, [some (vr 135), some (vi lo), some (vi hi), some (vi v)], [vr 135])) (S' := MS I J cc ss) 2 rfl ?_
      refine ev_cp rfl rfl rfl ⟨Nat.le_of_ble_eq_true rfl, Nat.le_of_ble_eq_true rfl⟩ (sp_next X _ _ _ _ hR (enF tx n a) (en_le ha).2 h9) (fun I1 J2 q3 => ?_)
      obtain ⟨hK9, hO9, hw9⟩ := q3
      show Ev X k_X9_takes (79, [some (vr 135), some (vi lo), some (vi hi), some (vi v)], []) (MS I1 J2 cc ss) _
      refine ev_n (fr' := (80, [some (vr 135), some (vi lo), some (vi hi), some (vi v)], [vi v])) (S' := MS I1 J2 cc ss) 1 rfl ?_
      refine ev_r rfl rfl rfl ?_
      have hk1 := kd_1.mp (by assumption : kdF tx n a = 1)
      have hd9 := diF_lt hk1.1 hk1.2
      have hno1 := hno (by assumption)
      have hi1 := hno1.2.2
      have hnn := nu_pos (tx := tx) (n := n) (s := a)
      have hvv : v = nuF tx a (diF tx n a - a) := by omega
      have hU : pnU tx n false lo hi a = .inl (diF tx n a, v) := by
        unfold pnU
        rw [if_neg (by omega), sgF_f, ← hvv, if_pos (by omega)]
      rw [en_1 hk1] at hK9
      exact ⟨_, _, _, rfl, rfl, hO9, by rw [hU]; exact ⟨rfl, hK9, hw9.trans hw0, diF_le a ha⟩⟩
    · show Ev X k_X9_takes (45, [some (vr 135), some (vi lo), some (vi hi), none], []) (MS I J cc ss) _
      refine ev_n (fr' := (48, [some (vr 135), some (vi lo), some (vi hi), none], [vi (-3), vr 135])) (S' := MS I J cc ss) 2 rfl ?_
      refine ev_cv rfl rfl rfl ⟨Nat.le_of_ble_eq_true rfl, Nat.le_of_ble_eq_true rfl⟩ (sp_fails X _ _ _ _ (-3) a hw0 h8) ?_
      show Ev X k_X9_takes (51, [some (vr 135), some (vi lo), some (vi hi), none], []) (MS (up2 (up2 I 135 11 (-3)) 135 12 (a : Int)) J cc ss) _
      refine ev_n (fr' := (80, [some (vr 135), some (vi lo), some (vi hi), some (vi 0)], [vi 0])) (S' := MS (up2 (up2 I 135 11 (-3)) 135 12 (a : Int)) J cc ss) 9 rfl ?_
      refine ev_r rfl rfl rfl ?_
      have hk1 := kd_1.mp (by assumption : kdF tx n a = 1)
      have hd9 := diF_lt hk1.1 hk1.2
      have hno1 := hno (by assumption)
      have hi1 := hno1.2.2
      have hnn := nu_pos (tx := tx) (n := n) (s := a)
      have hU : pnU tx n false lo hi a = .inr (-3, a) := by
        unfold pnU
        rw [if_neg (by omega), sgF_f, if_neg (fun q => by omega)]
      exact ⟨_, _, _, rfl, rfl, (onlyL.refl _ _).e, by rw [hU]; exact ⟨rfl, EE.mk (by decide)⟩⟩
  · show Ev X k_X9_takes (15, [some (vr 135), some (vi lo), some (vi hi), none], []) (MS I J cc ss) _
    refine ev_n (fr' := (18, [some (vr 135), some (vi lo), some (vi hi), none], [vi (-2), vr 135])) (S' := MS I J cc ss) 2 rfl ?_
    refine ev_cv rfl rfl rfl ⟨Nat.le_of_ble_eq_true rfl, Nat.le_of_ble_eq_true rfl⟩ (sp_fails X _ _ _ _ (-2) a hw0 h8) ?_
    show Ev X k_X9_takes (21, [some (vr 135), some (vi lo), some (vi hi), none], []) (MS (up2 (up2 I 135 11 (-2)) 135 12 (a : Int)) J cc ss) _
    refine ev_n (fr' := (80, [some (vr 135), some (vi lo), some (vi hi), some (vi 0)], [vi 0])) (S' := MS (up2 (up2 I 135 11 (-2)) 135 12 (a : Int)) J cc ss) 10 rfl ?_
    refine ev_r rfl rfl rfl ?_
    have hU : pnU tx n false lo hi a = .inr (-2, a) := by
      unfold pnU
      rw [if_pos]
      exact diF_not (by
        rcases Nat.lt_or_ge a n with h | h
        · right; cases hb : isDi (tx a)
          · rfl
          · exact absurd (kd_1.mpr ⟨h, hb⟩) (by assumption)
        · exact Or.inl h)
    exact ⟨_, _, _, rfl, rfl, (onlyL.refl _ _).e, by rw [hU]; exact ⟨rfl, EE.mk (by decide)⟩⟩
theorem sp_takesE (X : AX) (I J : Nat → Nat → Int) (cc ss : Nat) (lo hi : Int) (hwE : I 135 11 ≠ 0) : Ev X k_X9_takes (0, [some (vr 135), some (vi lo), some (vi hi), none], []) (MS I J cc ss) (fun o T => o = .inl (some (vi 0)) ∧ T = MS I J cc ss) := by
  refine ev_n (fr' := (4, [some (vr 135), some (vi lo), some (vi hi), none], [vi (I 135 11)])) (S' := MS I J cc ss) 2 rfl ?_
  refine ev_if (c := .ne) (off := 20) rfl (by decide) (fun (g1 : (I 135 11) ≠ 0) => ?_) (fun (g1 : ¬ ((I 135 11) ≠ 0)) => False.elim (g1 hwE))
  show Ev X k_X9_takes (24, [some (vr 135), some (vi lo), some (vi hi), none], []) (MS I J cc ss) _
  refine ev_n (fr' := (28, [some (vr 135), some (vi lo), some (vi hi), none], [vi (I 135 11)])) (S' := MS I J cc ss) 2 rfl ?_
  refine ev_if (c := .ne) (off := 23) rfl (by decide) (fun (g2 : (I 135 11) ≠ 0) => ?_) (fun (g2 : ¬ ((I 135 11) ≠ 0)) => False.elim (g2 hwE))
  show Ev X k_X9_takes (51, [some (vr 135), some (vi lo), some (vi hi), none], []) (MS I J cc ss) _
  refine ev_n (fr' := (55, [some (vr 135), some (vi lo), some (vi hi), none], [vi (I 135 11)])) (S' := MS I J cc ss) 2 rfl ?_
  refine ev_if (c := .ne) (off := 11) rfl (by decide) (fun (g3 : (I 135 11) ≠ 0) => ?_) (fun (g3 : ¬ ((I 135 11) ≠ 0)) => False.elim (g3 hwE))
  show Ev X k_X9_takes (66, [some (vr 135), some (vi lo), some (vi hi), none], []) (MS I J cc ss) _
  refine ev_n (fr' := (72, [some (vr 135), some (vi lo), some (vi hi), some (vi 0)], [vi (I 135 11)])) (S' := MS I J cc ss) 4 rfl ?_
  refine ev_if (c := .ne) (off := 7) rfl (by decide) (fun (g4 : (I 135 11) ≠ 0) => ?_) (fun (g4 : ¬ ((I 135 11) ≠ 0)) => False.elim (g4 hwE))
  show Ev X k_X9_takes (79, [some (vr 135), some (vi lo), some (vi hi), some (vi 0)], []) (MS I J cc ss) _
  refine ev_n (fr' := (80, [some (vr 135), some (vi lo), some (vi hi), some (vi 0)], [vi 0])) (S' := MS I J cc ss) 1 rfl ?_
  refine ev_r rfl rfl rfl ?_
  exact ⟨rfl, rfl⟩
theorem sp_takesSigned (X : AX) (I J : Nat → Nat → Int) (cc ss : Nat) {tx : F1} {n : Nat} (hR : RB I tx n) (a : Nat) (hK : TK I J tx n a) (hw0 : I 135 11 = 0) (hi : Int) (hh : 0 < hi ∧ hi < 1000) : Ev X k_X9_takesSigned (0, [some (vr 135), some (vi hi), none, none], []) (MS I J cc ss) (PZ cc ss (fun z I' J' => RN I I' J J' tx n (pnF tx n (-hi) hi a) z)) := by
  have hO := onlyL.refl I J
  have hK0 := hK
  refine ev_n (fr' := (3, [some (vr 135), some (vi hi), none, none], [vi 45, vr 135])) (S' := MS I J cc ss) 2 rfl ?_
  refine ev_cv rfl rfl rfl ⟨Nat.le_of_ble_eq_true rfl, Nat.le_of_ble_eq_true rfl⟩ (sp_isSign X _ _ _ _ hR a hK hw0 45 (by decide) (by decide) (by decide)) ?_
  show Ev X k_X9_takesSigned (6, [some (vr 135), some (vi hi), none, none], [vi (if atF tx n a = 45 then 1 else 0)]) (MS I J cc ss) _
  refine ev_n (fr' := (8, [some (vr 135), some (vi hi), some (vi (if atF tx n a = 45 then 1 else 0)), none], [vi (if atF tx n a = 45 then 1 else 0)])) (S' := MS I J cc ss) 2 rfl ?_
  refine ev_beq _ rfl (by decide) (fun (g1 : ¬ (atF tx n a = 45)) => ?_) (fun (g1 : atF tx n a = 45) => ?_)
  · show Ev X k_X9_takesSigned (16, [some (vr 135), some (vi hi), some (vi (if atF tx n a = 45 then 1 else 0)), none], []) (MS I J cc ss) _
    refine ev_n (fr' := (19, [some (vr 135), some (vi hi), some (vi (if atF tx n a = 45 then 1 else 0)), none], [vi hi, vi 0, vr 135])) (S' := MS I J cc ss) 3 rfl ?_
    refine ev_cz rfl rfl rfl ⟨Nat.le_of_ble_eq_true rfl, Nat.le_of_ble_eq_true rfl⟩ (sp_takes X _ _ _ _ hR a hK hw0 0 hi (by omega)) (fun z1 I1 J2 q3 => ?_)
    obtain ⟨hO9, hz9⟩ := q3
    rcases hr1 : pnU tx n false 0 hi a with ⟨e1, v1⟩ | ⟨c1, s1⟩ <;> rw [hr1] at hz9
    · obtain ⟨hzv, hK, hw0, hen1⟩ := hz9
      subst z1
      have hR := hR.l hO9
      have hpn1 := pnU_ok hr1
      have hO := hO.trans hO9
      show Ev X k_X9_takesSigned (22, [some (vr 135), some (vi hi), some (vi (if atF tx n a = 45 then 1 else 0)), none], [vi v1]) (MS I1 J2 cc ss) _
      refine ev_n (fr' := (24, [some (vr 135), some (vi hi), some (vi (if atF tx n a = 45 then 1 else 0)), some (vi v1)], [vi (if atF tx n a = 45 then 1 else 0)])) (S' := MS I1 J2 cc ss) 2 rfl ?_
      refine ev_beq _ rfl (by decide) (fun (g2 : ¬ (atF tx n a = 45)) => ?_) (fun (g2 : atF tx n a = 45) => False.elim (g1 g2))
      show Ev X k_X9_takesSigned (32, [some (vr 135), some (vi hi), some (vi (if atF tx n a = 45 then 1 else 0)), some (vi v1)], []) (MS I1 J2 cc ss) _
      refine ev_n (fr' := (33, [some (vr 135), some (vi hi), some (vi (if atF tx n a = 45 then 1 else 0)), some (vi v1)], [vi v1])) (S' := MS I1 J2 cc ss) 1 rfl ?_
      refine ev_r rfl rfl rfl ?_
      have hF := pnF_a (lo := -hi) (hi := hi) hK0.2.1 (fun q => g1 q.2)
      rw [pnU_pos (by omega)] at hF
      rw [hr1] at hF
      rw [hF]
      exact ⟨_, _, _, rfl, rfl, hO, rfl, hK, hw0, hen1⟩
    · obtain ⟨rfl, hE⟩ := hz9
      have hR := hR.l hO9
      have hwE := hE.ne
      have hO := hO.trans hO9
      show Ev X k_X9_takesSigned (22, [some (vr 135), some (vi hi), some (vi (if atF tx n a = 45 then 1 else 0)), none], [vi 0]) (MS I1 J2 cc ss) _
      refine ev_n (fr' := (24, [some (vr 135), some (vi hi), some (vi (if atF tx n a = 45 then 1 else 0)), some (vi 0)], [vi (if atF tx n a = 45 then 1 else 0)])) (S' := MS I1 J2 cc ss) 2 rfl ?_
      refine ev_beq _ rfl (by decide) (fun (g2 : ¬ (atF tx n a = 45)) => ?_) (fun (g2 : atF tx n a = 45) => False.elim (g1 g2))
      show Ev X k_X9_takesSigned (32, [some (vr 135), some (vi hi), some (vi (if atF tx n a = 45 then 1 else 0)), some (vi 0)], []) (MS I1 J2 cc ss) _
      refine ev_n (fr' := (33, [some (vr 135), some (vi hi), some (vi (if atF tx n a = 45 then 1 else 0)), some (vi 0)], [vi 0])) (S' := MS I1 J2 cc ss) 1 rfl ?_
      refine ev_r rfl rfl rfl ?_
      have hF := pnF_a (lo := -hi) (hi := hi) hK0.2.1 (fun q => g1 q.2)
      rw [pnU_pos (by omega)] at hF
      rw [hr1] at hF
      rw [hF]
      exact ⟨_, _, _, rfl, rfl, hO, rfl, hE⟩
  · show Ev X k_X9_takesSigned (11, [some (vr 135), some (vi hi), some (vi (if atF tx n a = 45 then 1 else 0)), none], []) (MS I J cc ss) _
    refine ev_n (fr' := (13, [some (vr 135), some (vi hi), some (vi (if atF tx n a = 45 then 1 else 0)), none], [vi 1, vr 135])) (S' := MS I J cc ss) 2 rfl ?_
    refine ev_cp rfl rfl rfl ⟨Nat.le_of_ble_eq_true rfl, Nat.le_of_ble_eq_true rfl⟩ (sp_mustT X _ _ _ _ hR a hK hw0) (fun I4 J5 q6 => ?_)
    obtain ⟨hK, hO9, hw0⟩ := q6
    show Ev X k_X9_takesSigned (16, [some (vr 135), some (vi hi), some (vi (if atF tx n a = 45 then 1 else 0)), none], []) (MS I4 J5 cc ss) _
    have hR := hR.l hO9
    have hO := hO.trans hO9
    rw [en_2 (kd_2.mp ((sg_at (c := 45) (by decide) (by decide) (by decide)).mp g1).1)] at hK
    refine ev_n (fr' := (19, [some (vr 135), some (vi hi), some (vi (if atF tx n a = 45 then 1 else 0)), none], [vi hi, vi 0, vr 135])) (S' := MS I4 J5 cc ss) 3 rfl ?_
    refine ev_cz rfl rfl rfl ⟨Nat.le_of_ble_eq_true rfl, Nat.le_of_ble_eq_true rfl⟩ (sp_takes X _ _ _ _ hR (spF tx n (a + 1)) hK hw0 0 hi (by omega)) (fun z1 I7 J8 q9 => ?_)
    obtain ⟨hO9, hz9⟩ := q9
    rcases hr1 : pnU tx n false 0 hi (spF tx n (a + 1)) with ⟨e1, v1⟩ | ⟨c1, s1⟩ <;> rw [hr1] at hz9
    · obtain ⟨hzv, hK, hw0, hen1⟩ := hz9
      subst z1
      have hR := hR.l hO9
      have hpn1 := pnU_ok hr1
      have hO := hO.trans hO9
      show Ev X k_X9_takesSigned (22, [some (vr 135), some (vi hi), some (vi (if atF tx n a = 45 then 1 else 0)), none], [vi v1]) (MS I7 J8 cc ss) _
      refine ev_n (fr' := (24, [some (vr 135), some (vi hi), some (vi (if atF tx n a = 45 then 1 else 0)), some (vi v1)], [vi (if atF tx n a = 45 then 1 else 0)])) (S' := MS I7 J8 cc ss) 2 rfl ?_
      refine ev_beq _ rfl (by decide) (fun (g3 : ¬ (atF tx n a = 45)) => False.elim (g3 g1)) (fun (g3 : atF tx n a = 45) => ?_)
      show Ev X k_X9_takesSigned (27, [some (vr 135), some (vi hi), some (vi (if atF tx n a = 45 then 1 else 0)), some (vi v1)], []) (MS I7 J8 cc ss) _
      refine ev_n (fr' := (28, [some (vr 135), some (vi hi), some (vi (if atF tx n a = 45 then 1 else 0)), some (vi v1)], [vi v1])) (S' := MS I7 J8 cc ss) 1 rfl ?_
      refine ev_neg (z := -v1) rfl (by omega) (by omega) (by omega) ?_
      show Ev X k_X9_takesSigned (29, [some (vr 135), some (vi hi), some (vi (if atF tx n a = 45 then 1 else 0)), some (vi v1)], [vi (-v1)]) (MS I7 J8 cc ss) _
      refine ev_n (fr' := (33, [some (vr 135), some (vi hi), some (vi (if atF tx n a = 45 then 1 else 0)), some (vi v1)], [vi (-v1)])) (S' := MS I7 J8 cc ss) 1 rfl ?_
      refine ev_r rfl rfl rfl ?_
      have hF := pnF_b (hi := hi) hK0.2.1 (show -hi < 0 by omega) g1
      rw [pnU_neg] at hF
      rw [hr1] at hF
      rw [hF]
      exact ⟨_, _, _, rfl, rfl, hO, rfl, hK, hw0, hen1⟩
    · obtain ⟨rfl, hE⟩ := hz9
      have hR := hR.l hO9
      have hwE := hE.ne
      have hO := hO.trans hO9
      show Ev X k_X9_takesSigned (22, [some (vr 135), some (vi hi), some (vi (if atF tx n a = 45 then 1 else 0)), none], [vi 0]) (MS I7 J8 cc ss) _
      refine ev_n (fr' := (24, [some (vr 135), some (vi hi), some (vi (if atF tx n a = 45 then 1 else 0)), some (vi 0)], [vi (if atF tx n a = 45 then 1 else 0)])) (S' := MS I7 J8 cc ss) 2 rfl ?_
      refine ev_beq _ rfl (by decide) (fun (g3 : ¬ (atF tx n a = 45)) => False.elim (g3 g1)) (fun (g3 : atF tx n a = 45) => ?_)
      show Ev X k_X9_takesSigned (27, [some (vr 135), some (vi hi), some (vi (if atF tx n a = 45 then 1 else 0)), some (vi 0)], []) (MS I7 J8 cc ss) _
      refine ev_n (fr' := (33, [some (vr 135), some (vi hi), some (vi (if atF tx n a = 45 then 1 else 0)), some (vi 0)], [vi 0])) (S' := MS I7 J8 cc ss) 3 rfl ?_
      refine ev_r rfl rfl rfl ?_
      have hF := pnF_b (hi := hi) hK0.2.1 (show -hi < 0 by omega) g1
      rw [pnU_neg] at hF
      rw [hr1] at hF
      rw [hF]
      exact ⟨_, _, _, rfl, rfl, hO, rfl, hE⟩
theorem sp_takesSignedE (X : AX) (I J : Nat → Nat → Int) (cc ss : Nat) (hi : Int) (hwE : I 135 11 ≠ 0) : Ev X k_X9_takesSigned (0, [some (vr 135), some (vi hi), none, none], []) (MS I J cc ss) (fun o T => o = .inl (some (vi 0)) ∧ T = MS I J cc ss) := by
  refine ev_n (fr' := (3, [some (vr 135), some (vi hi), none, none], [vi 45, vr 135])) (S' := MS I J cc ss) 2 rfl ?_
  refine ev_cv rfl rfl rfl ⟨Nat.le_of_ble_eq_true rfl, Nat.le_of_ble_eq_true rfl⟩ (sp_isSignE X _ _ _ _ 45 hwE) ?_
  show Ev X k_X9_takesSigned (6, [some (vr 135), some (vi hi), none, none], [vi 0]) (MS I J cc ss) _
  refine ev_n (fr' := (19, [some (vr 135), some (vi hi), some (vi 0), none], [vi hi, vi 0, vr 135])) (S' := MS I J cc ss) 6 rfl ?_
  refine ev_cv rfl rfl rfl ⟨Nat.le_of_ble_eq_true rfl, Nat.le_of_ble_eq_true rfl⟩ (sp_takesE X _ _ _ _ 0 hi hwE) ?_
  show Ev X k_X9_takesSigned (22, [some (vr 135), some (vi hi), some (vi 0), none], [vi 0]) (MS I J cc ss) _
  refine ev_n (fr' := (33, [some (vr 135), some (vi hi), some (vi 0), some (vi 0)], [vi 0])) (S' := MS I J cc ss) 4 rfl ?_
  refine ev_r rfl rfl rfl ?_
  exact ⟨rfl, rfl⟩
