/-! THE REFERENCE'S LEXER: strings, words (printed by gen/g88.py) -/
theorem sp_chkIdx (X : AX) (S : AS) (i m : Int) (h : 0 ≤ i ∧ i < m) : Ev X k_J3_checkIndex_8e157 (0, [some (vi i), some (vi m), some (vj)], []) (S) (fun o T => o = .inl (some (vi i)) ∧ T = S) := by
  refine ev_n (fr' := (1, [some (vi i), some (vi m), some (vj)], [vi i])) (S' := S) 1 rfl ?_
  refine ev_if (c := .lt) (off := 8) rfl (by decide) (fun (g1 : i < 0) => False.elim (by omega)) (fun (g1 : ¬ (i < 0)) => ?_)
  show Ev X k_J3_checkIndex_8e157 (4, [some (vi i), some (vi m), some (vj)], []) (S) _
  refine ev_n (fr' := (6, [some (vi i), some (vi m), some (vj)], [vi m, vi i])) (S' := S) 2 rfl ?_
  refine ev_ic (c := .lt) (off := 10) rfl (by decide) (fun (g2 : i < m) => ?_) (fun (g2 : ¬ (i < m)) => False.elim (by omega))
  show Ev X k_J3_checkIndex_8e157 (16, [some (vi i), some (vi m), some (vj)], []) (S) _
  refine ev_n (fr' := (17, [some (vi i), some (vi m), some (vj)], [vi i])) (S' := S) 1 rfl ?_
  refine ev_r rfl rfl rfl ?_
  exact ⟨rfl, rfl⟩
theorem sp_chkIdx2 (X : AX) (S : AS) (i m : Int) (h : 0 ≤ i ∧ i < m) : Ev X k_J0_checkIndex_df160 (0, [some (vi i), some (vi m)], []) (S) (fun o T => o = .inl none ∧ T = S) := by
  refine ev_n (fr' := (5, [some (vi i), some (vi m)], [vj, vi m, vi i])) (S' := S) 3 rfl ?_
  refine ev_cv rfl rfl rfl ⟨Nat.le_of_ble_eq_true rfl, Nat.le_of_ble_eq_true rfl⟩ (sp_chkIdx X _ i m (by omega)) ?_
  show Ev X k_J0_checkIndex_df160 (8, [some (vi i), some (vi m)], [vi i]) (S) _
  refine ev_n (fr' := (9, [some (vi i), some (vi m)], [])) (S' := S) 1 rfl ?_
  refine ev_r rfl rfl rfl ?_
  exact ⟨rfl, rfl⟩
theorem sp_coder_0 (X : AX) (I J : Nat → Nat → Int) (cc ss : Nat) : Ev X k_J0_coder_7d493 (0, [some (vr 1000100)], []) (MS I J cc ss) (fun o T => o = .inl (some (vi 0)) ∧ T = MS I J cc ss) := by
  refine ev_n (fr' := (14, [some (vr 1000100)], [vi 0])) (S' := MS I J cc ss) 5 rfl ?_
  refine ev_r rfl rfl rfl ?_
  exact ⟨rfl, rfl⟩
theorem sp_lat_0 (X : AX) (I J : Nat → Nat → Int) (cc ss : Nat) : Ev X k_J0_isLatin1_aae02 (0, [some (vr 1000100)], []) (MS I J cc ss) (fun o T => o = .inl (some (vi 1)) ∧ T = MS I J cc ss) := by
  refine ev_n (fr' := (18, [some (vr 1000100)], [vi 1])) (S' := MS I J cc ss) 7 rfl ?_
  refine ev_r rfl rfl rfl ?_
  exact ⟨rfl, rfl⟩
theorem sp_len_0 (X : AX) (I J : Nat → Nat → Int) (cc ss : Nat) : Ev X k_J0_length_8abf5 (0, [some (vr 1000100)], []) (MS I J cc ss) (fun o T => o = .inl (some (vi 4)) ∧ T = MS I J cc ss) := by
  refine ev_n (fr' := (6, [some (vr 1000100)], [vr 1000100, vi 4])) (S' := MS I J cc ss) 4 rfl ?_
  refine ev_cv rfl rfl rfl ⟨Nat.le_of_ble_eq_true rfl, Nat.le_of_ble_eq_true rfl⟩ (sp_coder_0 X _ _ _ _) ?_
  show Ev X k_J0_length_8abf5 (9, [some (vr 1000100)], [vi 0, vi 4]) (MS I J cc ss) _
  refine ev_n (fr' := (10, [some (vr 1000100)], [vi (opI fShr 4 0)])) (S' := MS I J cc ss) 1 rfl ?_
  refine ev_eqi (show opI fShr 4 0 = 4 by decide) ?_
  show Ev X k_J0_length_8abf5 (10, [some (vr 1000100)], [vi 4]) (MS I J cc ss) _
  refine ev_r rfl rfl rfl ?_
  exact ⟨rfl, rfl⟩
theorem sp_chB_0_0 (X : AX) (I J : Nat → Nat → Int) (cc ss : Nat) : Ev X k_J1_charAt_3b067 (0, [some (vr 1000200), some (vi 0)], []) (MS I J cc ss) (fun o T => o = .inl (some (vi 115)) ∧ T = MS I J cc ss) := by
  refine ev_n (fr' := (3, [some (vr 1000200), some (vi 0)], [vi 4, vi 0])) (S' := MS I J cc ss) 3 rfl ?_
  refine ev_cv rfl rfl rfl ⟨Nat.le_of_ble_eq_true rfl, Nat.le_of_ble_eq_true rfl⟩ (sp_chkIdx2 X _ 0 4 (by omega)) ?_
  show Ev X k_J1_charAt_3b067 (6, [some (vr 1000200), some (vi 0)], []) (MS I J cc ss) _
  refine ev_n (fr' := (13, [some (vr 1000200), some (vi 0)], [vi (opI (· &&& ·) 115 255)])) (S' := MS I J cc ss) 5 rfl ?_
  refine ev_eqi (show opI (· &&& ·) 115 255 = 115 by decide) ?_
  show Ev X k_J1_charAt_3b067 (13, [some (vr 1000200), some (vi 0)], [vi 115]) (MS I J cc ss) _
  refine ev_n (fr' := (14, [some (vr 1000200), some (vi 0)], [vi ((fI2c (Int32.ofInt 115)).toInt)])) (S' := MS I J cc ss) 1 rfl ?_
  refine ev_eqi (show (fI2c (Int32.ofInt 115)).toInt = 115 by decide) ?_
  show Ev X k_J1_charAt_3b067 (14, [some (vr 1000200), some (vi 0)], [vi 115]) (MS I J cc ss) _
  refine ev_r rfl rfl rfl ?_
  exact ⟨rfl, rfl⟩
theorem sp_ch_0_0 (X : AX) (I J : Nat → Nat → Int) (cc ss : Nat) : Ev X k_J0_charAt_5068e (0, [some (vr 1000100), some (vi 0)], []) (MS I J cc ss) (fun o T => o = .inl (some (vi 115)) ∧ T = MS I J cc ss) := by
  refine ev_n (fr' := (1, [some (vr 1000100), some (vi 0)], [vr 1000100])) (S' := MS I J cc ss) 1 rfl ?_
  refine ev_cv rfl rfl rfl ⟨Nat.le_of_ble_eq_true rfl, Nat.le_of_ble_eq_true rfl⟩ (sp_lat_0 X _ _ _ _) ?_
  show Ev X k_J0_charAt_5068e (4, [some (vr 1000100), some (vi 0)], [vi 1]) (MS I J cc ss) _
  refine ev_n (fr' := (12, [some (vr 1000100), some (vi 0)], [vi 0, vr 1000200])) (S' := MS I J cc ss) 4 rfl ?_
  refine ev_cv rfl rfl rfl ⟨Nat.le_of_ble_eq_true rfl, Nat.le_of_ble_eq_true rfl⟩ (sp_chB_0_0 X _ _ _ _) ?_
  show Ev X k_J0_charAt_5068e (15, [some (vr 1000100), some (vi 0)], [vi 115]) (MS I J cc ss) _
  refine ev_r rfl rfl rfl ?_
  exact ⟨rfl, rfl⟩
theorem sp_chB_0_1 (X : AX) (I J : Nat → Nat → Int) (cc ss : Nat) : Ev X k_J1_charAt_3b067 (0, [some (vr 1000200), some (vi 1)], []) (MS I J cc ss) (fun o T => o = .inl (some (vi 105)) ∧ T = MS I J cc ss) := by
  refine ev_n (fr' := (3, [some (vr 1000200), some (vi 1)], [vi 4, vi 1])) (S' := MS I J cc ss) 3 rfl ?_
  refine ev_cv rfl rfl rfl ⟨Nat.le_of_ble_eq_true rfl, Nat.le_of_ble_eq_true rfl⟩ (sp_chkIdx2 X _ 1 4 (by omega)) ?_
  show Ev X k_J1_charAt_3b067 (6, [some (vr 1000200), some (vi 1)], []) (MS I J cc ss) _
  refine ev_n (fr' := (13, [some (vr 1000200), some (vi 1)], [vi (opI (· &&& ·) 105 255)])) (S' := MS I J cc ss) 5 rfl ?_
  refine ev_eqi (show opI (· &&& ·) 105 255 = 105 by decide) ?_
  show Ev X k_J1_charAt_3b067 (13, [some (vr 1000200), some (vi 1)], [vi 105]) (MS I J cc ss) _
  refine ev_n (fr' := (14, [some (vr 1000200), some (vi 1)], [vi ((fI2c (Int32.ofInt 105)).toInt)])) (S' := MS I J cc ss) 1 rfl ?_
  refine ev_eqi (show (fI2c (Int32.ofInt 105)).toInt = 105 by decide) ?_
  show Ev X k_J1_charAt_3b067 (14, [some (vr 1000200), some (vi 1)], [vi 105]) (MS I J cc ss) _
  refine ev_r rfl rfl rfl ?_
  exact ⟨rfl, rfl⟩
theorem sp_ch_0_1 (X : AX) (I J : Nat → Nat → Int) (cc ss : Nat) : Ev X k_J0_charAt_5068e (0, [some (vr 1000100), some (vi 1)], []) (MS I J cc ss) (fun o T => o = .inl (some (vi 105)) ∧ T = MS I J cc ss) := by
  refine ev_n (fr' := (1, [some (vr 1000100), some (vi 1)], [vr 1000100])) (S' := MS I J cc ss) 1 rfl ?_
  refine ev_cv rfl rfl rfl ⟨Nat.le_of_ble_eq_true rfl, Nat.le_of_ble_eq_true rfl⟩ (sp_lat_0 X _ _ _ _) ?_
  show Ev X k_J0_charAt_5068e (4, [some (vr 1000100), some (vi 1)], [vi 1]) (MS I J cc ss) _
  refine ev_n (fr' := (12, [some (vr 1000100), some (vi 1)], [vi 1, vr 1000200])) (S' := MS I J cc ss) 4 rfl ?_
  refine ev_cv rfl rfl rfl ⟨Nat.le_of_ble_eq_true rfl, Nat.le_of_ble_eq_true rfl⟩ (sp_chB_0_1 X _ _ _ _) ?_
  show Ev X k_J0_charAt_5068e (15, [some (vr 1000100), some (vi 1)], [vi 105]) (MS I J cc ss) _
  refine ev_r rfl rfl rfl ?_
  exact ⟨rfl, rfl⟩
theorem sp_chB_0_2 (X : AX) (I J : Nat → Nat → Int) (cc ss : Nat) : Ev X k_J1_charAt_3b067 (0, [some (vr 1000200), some (vi 2)], []) (MS I J cc ss) (fun o T => o = .inl (some (vi 122)) ∧ T = MS I J cc ss) := by
  refine ev_n (fr' := (3, [some (vr 1000200), some (vi 2)], [vi 4, vi 2])) (S' := MS I J cc ss) 3 rfl ?_
  refine ev_cv rfl rfl rfl ⟨Nat.le_of_ble_eq_true rfl, Nat.le_of_ble_eq_true rfl⟩ (sp_chkIdx2 X _ 2 4 (by omega)) ?_
  show Ev X k_J1_charAt_3b067 (6, [some (vr 1000200), some (vi 2)], []) (MS I J cc ss) _
  refine ev_n (fr' := (13, [some (vr 1000200), some (vi 2)], [vi (opI (· &&& ·) 122 255)])) (S' := MS I J cc ss) 5 rfl ?_
  refine ev_eqi (show opI (· &&& ·) 122 255 = 122 by decide) ?_
  show Ev X k_J1_charAt_3b067 (13, [some (vr 1000200), some (vi 2)], [vi 122]) (MS I J cc ss) _
  refine ev_n (fr' := (14, [some (vr 1000200), some (vi 2)], [vi ((fI2c (Int32.ofInt 122)).toInt)])) (S' := MS I J cc ss) 1 rfl ?_
  refine ev_eqi (show (fI2c (Int32.ofInt 122)).toInt = 122 by decide) ?_
  show Ev X k_J1_charAt_3b067 (14, [some (vr 1000200), some (vi 2)], [vi 122]) (MS I J cc ss) _
  refine ev_r rfl rfl rfl ?_
  exact ⟨rfl, rfl⟩
theorem sp_ch_0_2 (X : AX) (I J : Nat → Nat → Int) (cc ss : Nat) : Ev X k_J0_charAt_5068e (0, [some (vr 1000100), some (vi 2)], []) (MS I J cc ss) (fun o T => o = .inl (some (vi 122)) ∧ T = MS I J cc ss) := by
  refine ev_n (fr' := (1, [some (vr 1000100), some (vi 2)], [vr 1000100])) (S' := MS I J cc ss) 1 rfl ?_
  refine ev_cv rfl rfl rfl ⟨Nat.le_of_ble_eq_true rfl, Nat.le_of_ble_eq_true rfl⟩ (sp_lat_0 X _ _ _ _) ?_
  show Ev X k_J0_charAt_5068e (4, [some (vr 1000100), some (vi 2)], [vi 1]) (MS I J cc ss) _
  refine ev_n (fr' := (12, [some (vr 1000100), some (vi 2)], [vi 2, vr 1000200])) (S' := MS I J cc ss) 4 rfl ?_
  refine ev_cv rfl rfl rfl ⟨Nat.le_of_ble_eq_true rfl, Nat.le_of_ble_eq_true rfl⟩ (sp_chB_0_2 X _ _ _ _) ?_
  show Ev X k_J0_charAt_5068e (15, [some (vr 1000100), some (vi 2)], [vi 122]) (MS I J cc ss) _
  refine ev_r rfl rfl rfl ?_
  exact ⟨rfl, rfl⟩
theorem sp_chB_0_3 (X : AX) (I J : Nat → Nat → Int) (cc ss : Nat) : Ev X k_J1_charAt_3b067 (0, [some (vr 1000200), some (vi 3)], []) (MS I J cc ss) (fun o T => o = .inl (some (vi 101)) ∧ T = MS I J cc ss) := by
  refine ev_n (fr' := (3, [some (vr 1000200), some (vi 3)], [vi 4, vi 3])) (S' := MS I J cc ss) 3 rfl ?_
  refine ev_cv rfl rfl rfl ⟨Nat.le_of_ble_eq_true rfl, Nat.le_of_ble_eq_true rfl⟩ (sp_chkIdx2 X _ 3 4 (by omega)) ?_
  show Ev X k_J1_charAt_3b067 (6, [some (vr 1000200), some (vi 3)], []) (MS I J cc ss) _
  refine ev_n (fr' := (13, [some (vr 1000200), some (vi 3)], [vi (opI (· &&& ·) 101 255)])) (S' := MS I J cc ss) 5 rfl ?_
  refine ev_eqi (show opI (· &&& ·) 101 255 = 101 by decide) ?_
  show Ev X k_J1_charAt_3b067 (13, [some (vr 1000200), some (vi 3)], [vi 101]) (MS I J cc ss) _
  refine ev_n (fr' := (14, [some (vr 1000200), some (vi 3)], [vi ((fI2c (Int32.ofInt 101)).toInt)])) (S' := MS I J cc ss) 1 rfl ?_
  refine ev_eqi (show (fI2c (Int32.ofInt 101)).toInt = 101 by decide) ?_
  show Ev X k_J1_charAt_3b067 (14, [some (vr 1000200), some (vi 3)], [vi 101]) (MS I J cc ss) _
  refine ev_r rfl rfl rfl ?_
  exact ⟨rfl, rfl⟩
theorem sp_ch_0_3 (X : AX) (I J : Nat → Nat → Int) (cc ss : Nat) : Ev X k_J0_charAt_5068e (0, [some (vr 1000100), some (vi 3)], []) (MS I J cc ss) (fun o T => o = .inl (some (vi 101)) ∧ T = MS I J cc ss) := by
  refine ev_n (fr' := (1, [some (vr 1000100), some (vi 3)], [vr 1000100])) (S' := MS I J cc ss) 1 rfl ?_
  refine ev_cv rfl rfl rfl ⟨Nat.le_of_ble_eq_true rfl, Nat.le_of_ble_eq_true rfl⟩ (sp_lat_0 X _ _ _ _) ?_
  show Ev X k_J0_charAt_5068e (4, [some (vr 1000100), some (vi 3)], [vi 1]) (MS I J cc ss) _
  refine ev_n (fr' := (12, [some (vr 1000100), some (vi 3)], [vi 3, vr 1000200])) (S' := MS I J cc ss) 4 rfl ?_
  refine ev_cv rfl rfl rfl ⟨Nat.le_of_ble_eq_true rfl, Nat.le_of_ble_eq_true rfl⟩ (sp_chB_0_3 X _ _ _ _) ?_
  show Ev X k_J0_charAt_5068e (15, [some (vr 1000100), some (vi 3)], [vi 101]) (MS I J cc ss) _
  refine ev_r rfl rfl rfl ?_
  exact ⟨rfl, rfl⟩
theorem sp_coder_1 (X : AX) (I J : Nat → Nat → Int) (cc ss : Nat) : Ev X k_J0_coder_7d493 (0, [some (vr 1000101)], []) (MS I J cc ss) (fun o T => o = .inl (some (vi 0)) ∧ T = MS I J cc ss) := by
  refine ev_n (fr' := (14, [some (vr 1000101)], [vi 0])) (S' := MS I J cc ss) 5 rfl ?_
  refine ev_r rfl rfl rfl ?_
  exact ⟨rfl, rfl⟩
theorem sp_lat_1 (X : AX) (I J : Nat → Nat → Int) (cc ss : Nat) : Ev X k_J0_isLatin1_aae02 (0, [some (vr 1000101)], []) (MS I J cc ss) (fun o T => o = .inl (some (vi 1)) ∧ T = MS I J cc ss) := by
  refine ev_n (fr' := (18, [some (vr 1000101)], [vi 1])) (S' := MS I J cc ss) 7 rfl ?_
  refine ev_r rfl rfl rfl ?_
  exact ⟨rfl, rfl⟩
theorem sp_len_1 (X : AX) (I J : Nat → Nat → Int) (cc ss : Nat) : Ev X k_J0_length_8abf5 (0, [some (vr 1000101)], []) (MS I J cc ss) (fun o T => o = .inl (some (vi 5)) ∧ T = MS I J cc ss) := by
  refine ev_n (fr' := (6, [some (vr 1000101)], [vr 1000101, vi 5])) (S' := MS I J cc ss) 4 rfl ?_
  refine ev_cv rfl rfl rfl ⟨Nat.le_of_ble_eq_true rfl, Nat.le_of_ble_eq_true rfl⟩ (sp_coder_1 X _ _ _ _) ?_
  show Ev X k_J0_length_8abf5 (9, [some (vr 1000101)], [vi 0, vi 5]) (MS I J cc ss) _
  refine ev_n (fr' := (10, [some (vr 1000101)], [vi (opI fShr 5 0)])) (S' := MS I J cc ss) 1 rfl ?_
  refine ev_eqi (show opI fShr 5 0 = 5 by decide) ?_
  show Ev X k_J0_length_8abf5 (10, [some (vr 1000101)], [vi 5]) (MS I J cc ss) _
  refine ev_r rfl rfl rfl ?_
  exact ⟨rfl, rfl⟩
theorem sp_chB_1_0 (X : AX) (I J : Nat → Nat → Int) (cc ss : Nat) : Ev X k_J1_charAt_3b067 (0, [some (vr 1000201), some (vi 0)], []) (MS I J cc ss) (fun o T => o = .inl (some (vi 101)) ∧ T = MS I J cc ss) := by
  refine ev_n (fr' := (3, [some (vr 1000201), some (vi 0)], [vi 5, vi 0])) (S' := MS I J cc ss) 3 rfl ?_
  refine ev_cv rfl rfl rfl ⟨Nat.le_of_ble_eq_true rfl, Nat.le_of_ble_eq_true rfl⟩ (sp_chkIdx2 X _ 0 5 (by omega)) ?_
  show Ev X k_J1_charAt_3b067 (6, [some (vr 1000201), some (vi 0)], []) (MS I J cc ss) _
  refine ev_n (fr' := (13, [some (vr 1000201), some (vi 0)], [vi (opI (· &&& ·) 101 255)])) (S' := MS I J cc ss) 5 rfl ?_
  refine ev_eqi (show opI (· &&& ·) 101 255 = 101 by decide) ?_
  show Ev X k_J1_charAt_3b067 (13, [some (vr 1000201), some (vi 0)], [vi 101]) (MS I J cc ss) _
  refine ev_n (fr' := (14, [some (vr 1000201), some (vi 0)], [vi ((fI2c (Int32.ofInt 101)).toInt)])) (S' := MS I J cc ss) 1 rfl ?_
  refine ev_eqi (show (fI2c (Int32.ofInt 101)).toInt = 101 by decide) ?_
  show Ev X k_J1_charAt_3b067 (14, [some (vr 1000201), some (vi 0)], [vi 101]) (MS I J cc ss) _
  refine ev_r rfl rfl rfl ?_
  exact ⟨rfl, rfl⟩
theorem sp_ch_1_0 (X : AX) (I J : Nat → Nat → Int) (cc ss : Nat) : Ev X k_J0_charAt_5068e (0, [some (vr 1000101), some (vi 0)], []) (MS I J cc ss) (fun o T => o = .inl (some (vi 101)) ∧ T = MS I J cc ss) := by
  refine ev_n (fr' := (1, [some (vr 1000101), some (vi 0)], [vr 1000101])) (S' := MS I J cc ss) 1 rfl ?_
  refine ev_cv rfl rfl rfl ⟨Nat.le_of_ble_eq_true rfl, Nat.le_of_ble_eq_true rfl⟩ (sp_lat_1 X _ _ _ _) ?_
  show Ev X k_J0_charAt_5068e (4, [some (vr 1000101), some (vi 0)], [vi 1]) (MS I J cc ss) _
  refine ev_n (fr' := (12, [some (vr 1000101), some (vi 0)], [vi 0, vr 1000201])) (S' := MS I J cc ss) 4 rfl ?_
  refine ev_cv rfl rfl rfl ⟨Nat.le_of_ble_eq_true rfl, Nat.le_of_ble_eq_true rfl⟩ (sp_chB_1_0 X _ _ _ _) ?_
  show Ev X k_J0_charAt_5068e (15, [some (vr 1000101), some (vi 0)], [vi 101]) (MS I J cc ss) _
  refine ev_r rfl rfl rfl ?_
  exact ⟨rfl, rfl⟩
theorem sp_chB_1_1 (X : AX) (I J : Nat → Nat → Int) (cc ss : Nat) : Ev X k_J1_charAt_3b067 (0, [some (vr 1000201), some (vi 1)], []) (MS I J cc ss) (fun o T => o = .inl (some (vi 120)) ∧ T = MS I J cc ss) := by
  refine ev_n (fr' := (3, [some (vr 1000201), some (vi 1)], [vi 5, vi 1])) (S' := MS I J cc ss) 3 rfl ?_
  refine ev_cv rfl rfl rfl ⟨Nat.le_of_ble_eq_true rfl, Nat.le_of_ble_eq_true rfl⟩ (sp_chkIdx2 X _ 1 5 (by omega)) ?_
  show Ev X k_J1_charAt_3b067 (6, [some (vr 1000201), some (vi 1)], []) (MS I J cc ss) _
  refine ev_n (fr' := (13, [some (vr 1000201), some (vi 1)], [vi (opI (· &&& ·) 120 255)])) (S' := MS I J cc ss) 5 rfl ?_
  refine ev_eqi (show opI (· &&& ·) 120 255 = 120 by decide) ?_
  show Ev X k_J1_charAt_3b067 (13, [some (vr 1000201), some (vi 1)], [vi 120]) (MS I J cc ss) _
  refine ev_n (fr' := (14, [some (vr 1000201), some (vi 1)], [vi ((fI2c (Int32.ofInt 120)).toInt)])) (S' := MS I J cc ss) 1 rfl ?_
  refine ev_eqi (show (fI2c (Int32.ofInt 120)).toInt = 120 by decide) ?_
  show Ev X k_J1_charAt_3b067 (14, [some (vr 1000201), some (vi 1)], [vi 120]) (MS I J cc ss) _
  refine ev_r rfl rfl rfl ?_
  exact ⟨rfl, rfl⟩
theorem sp_ch_1_1 (X : AX) (I J : Nat → Nat → Int) (cc ss : Nat) : Ev X k_J0_charAt_5068e (0, [some (vr 1000101), some (vi 1)], []) (MS I J cc ss) (fun o T => o = .inl (some (vi 120)) ∧ T = MS I J cc ss) := by
  refine ev_n (fr' := (1, [some (vr 1000101), some (vi 1)], [vr 1000101])) (S' := MS I J cc ss) 1 rfl ?_
  refine ev_cv rfl rfl rfl ⟨Nat.le_of_ble_eq_true rfl, Nat.le_of_ble_eq_true rfl⟩ (sp_lat_1 X _ _ _ _) ?_
  show Ev X k_J0_charAt_5068e (4, [some (vr 1000101), some (vi 1)], [vi 1]) (MS I J cc ss) _
  refine ev_n (fr' := (12, [some (vr 1000101), some (vi 1)], [vi 1, vr 1000201])) (S' := MS I J cc ss) 4 rfl ?_
  refine ev_cv rfl rfl rfl ⟨Nat.le_of_ble_eq_true rfl, Nat.le_of_ble_eq_true rfl⟩ (sp_chB_1_1 X _ _ _ _) ?_
  show Ev X k_J0_charAt_5068e (15, [some (vr 1000101), some (vi 1)], [vi 120]) (MS I J cc ss) _
  refine ev_r rfl rfl rfl ?_
  exact ⟨rfl, rfl⟩
theorem sp_chB_1_2 (X : AX) (I J : Nat → Nat → Int) (cc ss : Nat) : Ev X k_J1_charAt_3b067 (0, [some (vr 1000201), some (vi 2)], []) (MS I J cc ss) (fun o T => o = .inl (some (vi 116)) ∧ T = MS I J cc ss) := by
  refine ev_n (fr' := (3, [some (vr 1000201), some (vi 2)], [vi 5, vi 2])) (S' := MS I J cc ss) 3 rfl ?_
  refine ev_cv rfl rfl rfl ⟨Nat.le_of_ble_eq_true rfl, Nat.le_of_ble_eq_true rfl⟩ (sp_chkIdx2 X _ 2 5 (by omega)) ?_
  show Ev X k_J1_charAt_3b067 (6, [some (vr 1000201), some (vi 2)], []) (MS I J cc ss) _
  refine ev_n (fr' := (13, [some (vr 1000201), some (vi 2)], [vi (opI (· &&& ·) 116 255)])) (S' := MS I J cc ss) 5 rfl ?_
  refine ev_eqi (show opI (· &&& ·) 116 255 = 116 by decide) ?_
  show Ev X k_J1_charAt_3b067 (13, [some (vr 1000201), some (vi 2)], [vi 116]) (MS I J cc ss) _
  refine ev_n (fr' := (14, [some (vr 1000201), some (vi 2)], [vi ((fI2c (Int32.ofInt 116)).toInt)])) (S' := MS I J cc ss) 1 rfl ?_
  refine ev_eqi (show (fI2c (Int32.ofInt 116)).toInt = 116 by decide) ?_
  show Ev X k_J1_charAt_3b067 (14, [some (vr 1000201), some (vi 2)], [vi 116]) (MS I J cc ss) _
  refine ev_r rfl rfl rfl ?_
  exact ⟨rfl, rfl⟩
theorem sp_ch_1_2 (X : AX) (I J : Nat → Nat → Int) (cc ss : Nat) : Ev X k_J0_charAt_5068e (0, [some (vr 1000101), some (vi 2)], []) (MS I J cc ss) (fun o T => o = .inl (some (vi 116)) ∧ T = MS I J cc ss) := by
  refine ev_n (fr' := (1, [some (vr 1000101), some (vi 2)], [vr 1000101])) (S' := MS I J cc ss) 1 rfl ?_
  refine ev_cv rfl rfl rfl ⟨Nat.le_of_ble_eq_true rfl, Nat.le_of_ble_eq_true rfl⟩ (sp_lat_1 X _ _ _ _) ?_
  show Ev X k_J0_charAt_5068e (4, [some (vr 1000101), some (vi 2)], [vi 1]) (MS I J cc ss) _
  refine ev_n (fr' := (12, [some (vr 1000101), some (vi 2)], [vi 2, vr 1000201])) (S' := MS I J cc ss) 4 rfl ?_
  refine ev_cv rfl rfl rfl ⟨Nat.le_of_ble_eq_true rfl, Nat.le_of_ble_eq_true rfl⟩ (sp_chB_1_2 X _ _ _ _) ?_
  show Ev X k_J0_charAt_5068e (15, [some (vr 1000101), some (vi 2)], [vi 116]) (MS I J cc ss) _
  refine ev_r rfl rfl rfl ?_
  exact ⟨rfl, rfl⟩
theorem sp_chB_1_3 (X : AX) (I J : Nat → Nat → Int) (cc ss : Nat) : Ev X k_J1_charAt_3b067 (0, [some (vr 1000201), some (vi 3)], []) (MS I J cc ss) (fun o T => o = .inl (some (vi 114)) ∧ T = MS I J cc ss) := by
  refine ev_n (fr' := (3, [some (vr 1000201), some (vi 3)], [vi 5, vi 3])) (S' := MS I J cc ss) 3 rfl ?_
  refine ev_cv rfl rfl rfl ⟨Nat.le_of_ble_eq_true rfl, Nat.le_of_ble_eq_true rfl⟩ (sp_chkIdx2 X _ 3 5 (by omega)) ?_
  show Ev X k_J1_charAt_3b067 (6, [some (vr 1000201), some (vi 3)], []) (MS I J cc ss) _
  refine ev_n (fr' := (13, [some (vr 1000201), some (vi 3)], [vi (opI (· &&& ·) 114 255)])) (S' := MS I J cc ss) 5 rfl ?_
  refine ev_eqi (show opI (· &&& ·) 114 255 = 114 by decide) ?_
  show Ev X k_J1_charAt_3b067 (13, [some (vr 1000201), some (vi 3)], [vi 114]) (MS I J cc ss) _
  refine ev_n (fr' := (14, [some (vr 1000201), some (vi 3)], [vi ((fI2c (Int32.ofInt 114)).toInt)])) (S' := MS I J cc ss) 1 rfl ?_
  refine ev_eqi (show (fI2c (Int32.ofInt 114)).toInt = 114 by decide) ?_
  show Ev X k_J1_charAt_3b067 (14, [some (vr 1000201), some (vi 3)], [vi 114]) (MS I J cc ss) _
  refine ev_r rfl rfl rfl ?_
  exact ⟨rfl, rfl⟩
theorem sp_ch_1_3 (X : AX) (I J : Nat → Nat → Int) (cc ss : Nat) : Ev X k_J0_charAt_5068e (0, [some (vr 1000101), some (vi 3)], []) (MS I J cc ss) (fun o T => o = .inl (some (vi 114)) ∧ T = MS I J cc ss) := by
  refine ev_n (fr' := (1, [some (vr 1000101), some (vi 3)], [vr 1000101])) (S' := MS I J cc ss) 1 rfl ?_
  refine ev_cv rfl rfl rfl ⟨Nat.le_of_ble_eq_true rfl, Nat.le_of_ble_eq_true rfl⟩ (sp_lat_1 X _ _ _ _) ?_
  show Ev X k_J0_charAt_5068e (4, [some (vr 1000101), some (vi 3)], [vi 1]) (MS I J cc ss) _
  refine ev_n (fr' := (12, [some (vr 1000101), some (vi 3)], [vi 3, vr 1000201])) (S' := MS I J cc ss) 4 rfl ?_
  refine ev_cv rfl rfl rfl ⟨Nat.le_of_ble_eq_true rfl, Nat.le_of_ble_eq_true rfl⟩ (sp_chB_1_3 X _ _ _ _) ?_
  show Ev X k_J0_charAt_5068e (15, [some (vr 1000101), some (vi 3)], [vi 114]) (MS I J cc ss) _
  refine ev_r rfl rfl rfl ?_
  exact ⟨rfl, rfl⟩
theorem sp_chB_1_4 (X : AX) (I J : Nat → Nat → Int) (cc ss : Nat) : Ev X k_J1_charAt_3b067 (0, [some (vr 1000201), some (vi 4)], []) (MS I J cc ss) (fun o T => o = .inl (some (vi 97)) ∧ T = MS I J cc ss) := by
  refine ev_n (fr' := (3, [some (vr 1000201), some (vi 4)], [vi 5, vi 4])) (S' := MS I J cc ss) 3 rfl ?_
  refine ev_cv rfl rfl rfl ⟨Nat.le_of_ble_eq_true rfl, Nat.le_of_ble_eq_true rfl⟩ (sp_chkIdx2 X _ 4 5 (by omega)) ?_
  show Ev X k_J1_charAt_3b067 (6, [some (vr 1000201), some (vi 4)], []) (MS I J cc ss) _
  refine ev_n (fr' := (13, [some (vr 1000201), some (vi 4)], [vi (opI (· &&& ·) 97 255)])) (S' := MS I J cc ss) 5 rfl ?_
  refine ev_eqi (show opI (· &&& ·) 97 255 = 97 by decide) ?_
  show Ev X k_J1_charAt_3b067 (13, [some (vr 1000201), some (vi 4)], [vi 97]) (MS I J cc ss) _
  refine ev_n (fr' := (14, [some (vr 1000201), some (vi 4)], [vi ((fI2c (Int32.ofInt 97)).toInt)])) (S' := MS I J cc ss) 1 rfl ?_
  refine ev_eqi (show (fI2c (Int32.ofInt 97)).toInt = 97 by decide) ?_
  show Ev X k_J1_charAt_3b067 (14, [some (vr 1000201), some (vi 4)], [vi 97]) (MS I J cc ss) _
  refine ev_r rfl rfl rfl ?_
  exact ⟨rfl, rfl⟩
theorem sp_ch_1_4 (X : AX) (I J : Nat → Nat → Int) (cc ss : Nat) : Ev X k_J0_charAt_5068e (0, [some (vr 1000101), some (vi 4)], []) (MS I J cc ss) (fun o T => o = .inl (some (vi 97)) ∧ T = MS I J cc ss) := by
  refine ev_n (fr' := (1, [some (vr 1000101), some (vi 4)], [vr 1000101])) (S' := MS I J cc ss) 1 rfl ?_
  refine ev_cv rfl rfl rfl ⟨Nat.le_of_ble_eq_true rfl, Nat.le_of_ble_eq_true rfl⟩ (sp_lat_1 X _ _ _ _) ?_
  show Ev X k_J0_charAt_5068e (4, [some (vr 1000101), some (vi 4)], [vi 1]) (MS I J cc ss) _
  refine ev_n (fr' := (12, [some (vr 1000101), some (vi 4)], [vi 4, vr 1000201])) (S' := MS I J cc ss) 4 rfl ?_
  refine ev_cv rfl rfl rfl ⟨Nat.le_of_ble_eq_true rfl, Nat.le_of_ble_eq_true rfl⟩ (sp_chB_1_4 X _ _ _ _) ?_
  show Ev X k_J0_charAt_5068e (15, [some (vr 1000101), some (vi 4)], [vi 97]) (MS I J cc ss) _
  refine ev_r rfl rfl rfl ?_
  exact ⟨rfl, rfl⟩
theorem sp_coder_2 (X : AX) (I J : Nat → Nat → Int) (cc ss : Nat) : Ev X k_J0_coder_7d493 (0, [some (vr 1000102)], []) (MS I J cc ss) (fun o T => o = .inl (some (vi 0)) ∧ T = MS I J cc ss) := by
  refine ev_n (fr' := (14, [some (vr 1000102)], [vi 0])) (S' := MS I J cc ss) 5 rfl ?_
  refine ev_r rfl rfl rfl ?_
  exact ⟨rfl, rfl⟩
theorem sp_lat_2 (X : AX) (I J : Nat → Nat → Int) (cc ss : Nat) : Ev X k_J0_isLatin1_aae02 (0, [some (vr 1000102)], []) (MS I J cc ss) (fun o T => o = .inl (some (vi 1)) ∧ T = MS I J cc ss) := by
  refine ev_n (fr' := (18, [some (vr 1000102)], [vi 1])) (S' := MS I J cc ss) 7 rfl ?_
  refine ev_r rfl rfl rfl ?_
  exact ⟨rfl, rfl⟩
theorem sp_len_2 (X : AX) (I J : Nat → Nat → Int) (cc ss : Nat) : Ev X k_J0_length_8abf5 (0, [some (vr 1000102)], []) (MS I J cc ss) (fun o T => o = .inl (some (vi 4)) ∧ T = MS I J cc ss) := by
  refine ev_n (fr' := (6, [some (vr 1000102)], [vr 1000102, vi 4])) (S' := MS I J cc ss) 4 rfl ?_
  refine ev_cv rfl rfl rfl ⟨Nat.le_of_ble_eq_true rfl, Nat.le_of_ble_eq_true rfl⟩ (sp_coder_2 X _ _ _ _) ?_
  show Ev X k_J0_length_8abf5 (9, [some (vr 1000102)], [vi 0, vi 4]) (MS I J cc ss) _
  refine ev_n (fr' := (10, [some (vr 1000102)], [vi (opI fShr 4 0)])) (S' := MS I J cc ss) 1 rfl ?_
  refine ev_eqi (show opI fShr 4 0 = 4 by decide) ?_
  show Ev X k_J0_length_8abf5 (10, [some (vr 1000102)], [vi 4]) (MS I J cc ss) _
  refine ev_r rfl rfl rfl ?_
  exact ⟨rfl, rfl⟩
theorem sp_chB_2_0 (X : AX) (I J : Nat → Nat → Int) (cc ss : Nat) : Ev X k_J1_charAt_3b067 (0, [some (vr 1000202), some (vi 0)], []) (MS I J cc ss) (fun o T => o = .inl (some (vi 112)) ∧ T = MS I J cc ss) := by
  refine ev_n (fr' := (3, [some (vr 1000202), some (vi 0)], [vi 4, vi 0])) (S' := MS I J cc ss) 3 rfl ?_
  refine ev_cv rfl rfl rfl ⟨Nat.le_of_ble_eq_true rfl, Nat.le_of_ble_eq_true rfl⟩ (sp_chkIdx2 X _ 0 4 (by omega)) ?_
  show Ev X k_J1_charAt_3b067 (6, [some (vr 1000202), some (vi 0)], []) (MS I J cc ss) _
  refine ev_n (fr' := (13, [some (vr 1000202), some (vi 0)], [vi (opI (· &&& ·) 112 255)])) (S' := MS I J cc ss) 5 rfl ?_
  refine ev_eqi (show opI (· &&& ·) 112 255 = 112 by decide) ?_
  show Ev X k_J1_charAt_3b067 (13, [some (vr 1000202), some (vi 0)], [vi 112]) (MS I J cc ss) _
  refine ev_n (fr' := (14, [some (vr 1000202), some (vi 0)], [vi ((fI2c (Int32.ofInt 112)).toInt)])) (S' := MS I J cc ss) 1 rfl ?_
  refine ev_eqi (show (fI2c (Int32.ofInt 112)).toInt = 112 by decide) ?_
  show Ev X k_J1_charAt_3b067 (14, [some (vr 1000202), some (vi 0)], [vi 112]) (MS I J cc ss) _
  refine ev_r rfl rfl rfl ?_
  exact ⟨rfl, rfl⟩
theorem sp_ch_2_0 (X : AX) (I J : Nat → Nat → Int) (cc ss : Nat) : Ev X k_J0_charAt_5068e (0, [some (vr 1000102), some (vi 0)], []) (MS I J cc ss) (fun o T => o = .inl (some (vi 112)) ∧ T = MS I J cc ss) := by
  refine ev_n (fr' := (1, [some (vr 1000102), some (vi 0)], [vr 1000102])) (S' := MS I J cc ss) 1 rfl ?_
  refine ev_cv rfl rfl rfl ⟨Nat.le_of_ble_eq_true rfl, Nat.le_of_ble_eq_true rfl⟩ (sp_lat_2 X _ _ _ _) ?_
  show Ev X k_J0_charAt_5068e (4, [some (vr 1000102), some (vi 0)], [vi 1]) (MS I J cc ss) _
  refine ev_n (fr' := (12, [some (vr 1000102), some (vi 0)], [vi 0, vr 1000202])) (S' := MS I J cc ss) 4 rfl ?_
  refine ev_cv rfl rfl rfl ⟨Nat.le_of_ble_eq_true rfl, Nat.le_of_ble_eq_true rfl⟩ (sp_chB_2_0 X _ _ _ _) ?_
  show Ev X k_J0_charAt_5068e (15, [some (vr 1000102), some (vi 0)], [vi 112]) (MS I J cc ss) _
  refine ev_r rfl rfl rfl ?_
  exact ⟨rfl, rfl⟩
theorem sp_chB_2_1 (X : AX) (I J : Nat → Nat → Int) (cc ss : Nat) : Ev X k_J1_charAt_3b067 (0, [some (vr 1000202), some (vi 1)], []) (MS I J cc ss) (fun o T => o = .inl (some (vi 97)) ∧ T = MS I J cc ss) := by
  refine ev_n (fr' := (3, [some (vr 1000202), some (vi 1)], [vi 4, vi 1])) (S' := MS I J cc ss) 3 rfl ?_
  refine ev_cv rfl rfl rfl ⟨Nat.le_of_ble_eq_true rfl, Nat.le_of_ble_eq_true rfl⟩ (sp_chkIdx2 X _ 1 4 (by omega)) ?_
  show Ev X k_J1_charAt_3b067 (6, [some (vr 1000202), some (vi 1)], []) (MS I J cc ss) _
  refine ev_n (fr' := (13, [some (vr 1000202), some (vi 1)], [vi (opI (· &&& ·) 97 255)])) (S' := MS I J cc ss) 5 rfl ?_
  refine ev_eqi (show opI (· &&& ·) 97 255 = 97 by decide) ?_
  show Ev X k_J1_charAt_3b067 (13, [some (vr 1000202), some (vi 1)], [vi 97]) (MS I J cc ss) _
  refine ev_n (fr' := (14, [some (vr 1000202), some (vi 1)], [vi ((fI2c (Int32.ofInt 97)).toInt)])) (S' := MS I J cc ss) 1 rfl ?_
  refine ev_eqi (show (fI2c (Int32.ofInt 97)).toInt = 97 by decide) ?_
  show Ev X k_J1_charAt_3b067 (14, [some (vr 1000202), some (vi 1)], [vi 97]) (MS I J cc ss) _
  refine ev_r rfl rfl rfl ?_
  exact ⟨rfl, rfl⟩
theorem sp_ch_2_1 (X : AX) (I J : Nat → Nat → Int) (cc ss : Nat) : Ev X k_J0_charAt_5068e (0, [some (vr 1000102), some (vi 1)], []) (MS I J cc ss) (fun o T => o = .inl (some (vi 97)) ∧ T = MS I J cc ss) := by
  refine ev_n (fr' := (1, [some (vr 1000102), some (vi 1)], [vr 1000102])) (S' := MS I J cc ss) 1 rfl ?_
  refine ev_cv rfl rfl rfl ⟨Nat.le_of_ble_eq_true rfl, Nat.le_of_ble_eq_true rfl⟩ (sp_lat_2 X _ _ _ _) ?_
  show Ev X k_J0_charAt_5068e (4, [some (vr 1000102), some (vi 1)], [vi 1]) (MS I J cc ss) _
  refine ev_n (fr' := (12, [some (vr 1000102), some (vi 1)], [vi 1, vr 1000202])) (S' := MS I J cc ss) 4 rfl ?_
  refine ev_cv rfl rfl rfl ⟨Nat.le_of_ble_eq_true rfl, Nat.le_of_ble_eq_true rfl⟩ (sp_chB_2_1 X _ _ _ _) ?_
  show Ev X k_J0_charAt_5068e (15, [some (vr 1000102), some (vi 1)], [vi 97]) (MS I J cc ss) _
  refine ev_r rfl rfl rfl ?_
  exact ⟨rfl, rfl⟩
theorem sp_chB_2_2 (X : AX) (I J : Nat → Nat → Int) (cc ss : Nat) : Ev X k_J1_charAt_3b067 (0, [some (vr 1000202), some (vi 2)], []) (MS I J cc ss) (fun o T => o = .inl (some (vi 114)) ∧ T = MS I J cc ss) := by
  refine ev_n (fr' := (3, [some (vr 1000202), some (vi 2)], [vi 4, vi 2])) (S' := MS I J cc ss) 3 rfl ?_
  refine ev_cv rfl rfl rfl ⟨Nat.le_of_ble_eq_true rfl, Nat.le_of_ble_eq_true rfl⟩ (sp_chkIdx2 X _ 2 4 (by omega)) ?_
  show Ev X k_J1_charAt_3b067 (6, [some (vr 1000202), some (vi 2)], []) (MS I J cc ss) _
  refine ev_n (fr' := (13, [some (vr 1000202), some (vi 2)], [vi (opI (· &&& ·) 114 255)])) (S' := MS I J cc ss) 5 rfl ?_
  refine ev_eqi (show opI (· &&& ·) 114 255 = 114 by decide) ?_
  show Ev X k_J1_charAt_3b067 (13, [some (vr 1000202), some (vi 2)], [vi 114]) (MS I J cc ss) _
  refine ev_n (fr' := (14, [some (vr 1000202), some (vi 2)], [vi ((fI2c (Int32.ofInt 114)).toInt)])) (S' := MS I J cc ss) 1 rfl ?_
  refine ev_eqi (show (fI2c (Int32.ofInt 114)).toInt = 114 by decide) ?_
  show Ev X k_J1_charAt_3b067 (14, [some (vr 1000202), some (vi 2)], [vi 114]) (MS I J cc ss) _
  refine ev_r rfl rfl rfl ?_
  exact ⟨rfl, rfl⟩
theorem sp_ch_2_2 (X : AX) (I J : Nat → Nat → Int) (cc ss : Nat) : Ev X k_J0_charAt_5068e (0, [some (vr 1000102), some (vi 2)], []) (MS I J cc ss) (fun o T => o = .inl (some (vi 114)) ∧ T = MS I J cc ss) := by
  refine ev_n (fr' := (1, [some (vr 1000102), some (vi 2)], [vr 1000102])) (S' := MS I J cc ss) 1 rfl ?_
  refine ev_cv rfl rfl rfl ⟨Nat.le_of_ble_eq_true rfl, Nat.le_of_ble_eq_true rfl⟩ (sp_lat_2 X _ _ _ _) ?_
  show Ev X k_J0_charAt_5068e (4, [some (vr 1000102), some (vi 2)], [vi 1]) (MS I J cc ss) _
  refine ev_n (fr' := (12, [some (vr 1000102), some (vi 2)], [vi 2, vr 1000202])) (S' := MS I J cc ss) 4 rfl ?_
  refine ev_cv rfl rfl rfl ⟨Nat.le_of_ble_eq_true rfl, Nat.le_of_ble_eq_true rfl⟩ (sp_chB_2_2 X _ _ _ _) ?_
  show Ev X k_J0_charAt_5068e (15, [some (vr 1000102), some (vi 2)], [vi 114]) (MS I J cc ss) _
  refine ev_r rfl rfl rfl ?_
  exact ⟨rfl, rfl⟩
theorem sp_chB_2_3 (X : AX) (I J : Nat → Nat → Int) (cc ss : Nat) : Ev X k_J1_charAt_3b067 (0, [some (vr 1000202), some (vi 3)], []) (MS I J cc ss) (fun o T => o = .inl (some (vi 116)) ∧ T = MS I J cc ss) := by
  refine ev_n (fr' := (3, [some (vr 1000202), some (vi 3)], [vi 4, vi 3])) (S' := MS I J cc ss) 3 rfl ?_
  refine ev_cv rfl rfl rfl ⟨Nat.le_of_ble_eq_true rfl, Nat.le_of_ble_eq_true rfl⟩ (sp_chkIdx2 X _ 3 4 (by omega)) ?_
  show Ev X k_J1_charAt_3b067 (6, [some (vr 1000202), some (vi 3)], []) (MS I J cc ss) _
  refine ev_n (fr' := (13, [some (vr 1000202), some (vi 3)], [vi (opI (· &&& ·) 116 255)])) (S' := MS I J cc ss) 5 rfl ?_
  refine ev_eqi (show opI (· &&& ·) 116 255 = 116 by decide) ?_
  show Ev X k_J1_charAt_3b067 (13, [some (vr 1000202), some (vi 3)], [vi 116]) (MS I J cc ss) _
  refine ev_n (fr' := (14, [some (vr 1000202), some (vi 3)], [vi ((fI2c (Int32.ofInt 116)).toInt)])) (S' := MS I J cc ss) 1 rfl ?_
  refine ev_eqi (show (fI2c (Int32.ofInt 116)).toInt = 116 by decide) ?_
  show Ev X k_J1_charAt_3b067 (14, [some (vr 1000202), some (vi 3)], [vi 116]) (MS I J cc ss) _
  refine ev_r rfl rfl rfl ?_
  exact ⟨rfl, rfl⟩
theorem sp_ch_2_3 (X : AX) (I J : Nat → Nat → Int) (cc ss : Nat) : Ev X k_J0_charAt_5068e (0, [some (vr 1000102), some (vi 3)], []) (MS I J cc ss) (fun o T => o = .inl (some (vi 116)) ∧ T = MS I J cc ss) := by
  refine ev_n (fr' := (1, [some (vr 1000102), some (vi 3)], [vr 1000102])) (S' := MS I J cc ss) 1 rfl ?_
  refine ev_cv rfl rfl rfl ⟨Nat.le_of_ble_eq_true rfl, Nat.le_of_ble_eq_true rfl⟩ (sp_lat_2 X _ _ _ _) ?_
  show Ev X k_J0_charAt_5068e (4, [some (vr 1000102), some (vi 3)], [vi 1]) (MS I J cc ss) _
  refine ev_n (fr' := (12, [some (vr 1000102), some (vi 3)], [vi 3, vr 1000202])) (S' := MS I J cc ss) 4 rfl ?_
  refine ev_cv rfl rfl rfl ⟨Nat.le_of_ble_eq_true rfl, Nat.le_of_ble_eq_true rfl⟩ (sp_chB_2_3 X _ _ _ _) ?_
  show Ev X k_J0_charAt_5068e (15, [some (vr 1000102), some (vi 3)], [vi 116]) (MS I J cc ss) _
  refine ev_r rfl rfl rfl ?_
  exact ⟨rfl, rfl⟩
theorem sp_coder_3 (X : AX) (I J : Nat → Nat → Int) (cc ss : Nat) : Ev X k_J0_coder_7d493 (0, [some (vr 1000103)], []) (MS I J cc ss) (fun o T => o = .inl (some (vi 0)) ∧ T = MS I J cc ss) := by
  refine ev_n (fr' := (14, [some (vr 1000103)], [vi 0])) (S' := MS I J cc ss) 5 rfl ?_
  refine ev_r rfl rfl rfl ?_
  exact ⟨rfl, rfl⟩
theorem sp_lat_3 (X : AX) (I J : Nat → Nat → Int) (cc ss : Nat) : Ev X k_J0_isLatin1_aae02 (0, [some (vr 1000103)], []) (MS I J cc ss) (fun o T => o = .inl (some (vi 1)) ∧ T = MS I J cc ss) := by
  refine ev_n (fr' := (18, [some (vr 1000103)], [vi 1])) (S' := MS I J cc ss) 7 rfl ?_
  refine ev_r rfl rfl rfl ?_
  exact ⟨rfl, rfl⟩
theorem sp_len_3 (X : AX) (I J : Nat → Nat → Int) (cc ss : Nat) : Ev X k_J0_length_8abf5 (0, [some (vr 1000103)], []) (MS I J cc ss) (fun o T => o = .inl (some (vi 3)) ∧ T = MS I J cc ss) := by
  refine ev_n (fr' := (6, [some (vr 1000103)], [vr 1000103, vi 3])) (S' := MS I J cc ss) 4 rfl ?_
  refine ev_cv rfl rfl rfl ⟨Nat.le_of_ble_eq_true rfl, Nat.le_of_ble_eq_true rfl⟩ (sp_coder_3 X _ _ _ _) ?_
  show Ev X k_J0_length_8abf5 (9, [some (vr 1000103)], [vi 0, vi 3]) (MS I J cc ss) _
  refine ev_n (fr' := (10, [some (vr 1000103)], [vi (opI fShr 3 0)])) (S' := MS I J cc ss) 1 rfl ?_
  refine ev_eqi (show opI fShr 3 0 = 3 by decide) ?_
  show Ev X k_J0_length_8abf5 (10, [some (vr 1000103)], [vi 3]) (MS I J cc ss) _
  refine ev_r rfl rfl rfl ?_
  exact ⟨rfl, rfl⟩
theorem sp_chB_3_0 (X : AX) (I J : Nat → Nat → Int) (cc ss : Nat) : Ev X k_J1_charAt_3b067 (0, [some (vr 1000203), some (vi 0)], []) (MS I J cc ss) (fun o T => o = .inl (some (vi 98)) ∧ T = MS I J cc ss) := by
  refine ev_n (fr' := (3, [some (vr 1000203), some (vi 0)], [vi 3, vi 0])) (S' := MS I J cc ss) 3 rfl ?_
  refine ev_cv rfl rfl rfl ⟨Nat.le_of_ble_eq_true rfl, Nat.le_of_ble_eq_true rfl⟩ (sp_chkIdx2 X _ 0 3 (by omega)) ?_
  show Ev X k_J1_charAt_3b067 (6, [some (vr 1000203), some (vi 0)], []) (MS I J cc ss) _
  refine ev_n (fr' := (13, [some (vr 1000203), some (vi 0)], [vi (opI (· &&& ·) 98 255)])) (S' := MS I J cc ss) 5 rfl ?_
  refine ev_eqi (show opI (· &&& ·) 98 255 = 98 by decide) ?_
  show Ev X k_J1_charAt_3b067 (13, [some (vr 1000203), some (vi 0)], [vi 98]) (MS I J cc ss) _
  refine ev_n (fr' := (14, [some (vr 1000203), some (vi 0)], [vi ((fI2c (Int32.ofInt 98)).toInt)])) (S' := MS I J cc ss) 1 rfl ?_
  refine ev_eqi (show (fI2c (Int32.ofInt 98)).toInt = 98 by decide) ?_
  show Ev X k_J1_charAt_3b067 (14, [some (vr 1000203), some (vi 0)], [vi 98]) (MS I J cc ss) _
  refine ev_r rfl rfl rfl ?_
  exact ⟨rfl, rfl⟩
theorem sp_ch_3_0 (X : AX) (I J : Nat → Nat → Int) (cc ss : Nat) : Ev X k_J0_charAt_5068e (0, [some (vr 1000103), some (vi 0)], []) (MS I J cc ss) (fun o T => o = .inl (some (vi 98)) ∧ T = MS I J cc ss) := by
  refine ev_n (fr' := (1, [some (vr 1000103), some (vi 0)], [vr 1000103])) (S' := MS I J cc ss) 1 rfl ?_
  refine ev_cv rfl rfl rfl ⟨Nat.le_of_ble_eq_true rfl, Nat.le_of_ble_eq_true rfl⟩ (sp_lat_3 X _ _ _ _) ?_
  show Ev X k_J0_charAt_5068e (4, [some (vr 1000103), some (vi 0)], [vi 1]) (MS I J cc ss) _
  refine ev_n (fr' := (12, [some (vr 1000103), some (vi 0)], [vi 0, vr 1000203])) (S' := MS I J cc ss) 4 rfl ?_
  refine ev_cv rfl rfl rfl ⟨Nat.le_of_ble_eq_true rfl, Nat.le_of_ble_eq_true rfl⟩ (sp_chB_3_0 X _ _ _ _) ?_
  show Ev X k_J0_charAt_5068e (15, [some (vr 1000103), some (vi 0)], [vi 98]) (MS I J cc ss) _
  refine ev_r rfl rfl rfl ?_
  exact ⟨rfl, rfl⟩
theorem sp_chB_3_1 (X : AX) (I J : Nat → Nat → Int) (cc ss : Nat) : Ev X k_J1_charAt_3b067 (0, [some (vr 1000203), some (vi 1)], []) (MS I J cc ss) (fun o T => o = .inl (some (vi 97)) ∧ T = MS I J cc ss) := by
  refine ev_n (fr' := (3, [some (vr 1000203), some (vi 1)], [vi 3, vi 1])) (S' := MS I J cc ss) 3 rfl ?_
  refine ev_cv rfl rfl rfl ⟨Nat.le_of_ble_eq_true rfl, Nat.le_of_ble_eq_true rfl⟩ (sp_chkIdx2 X _ 1 3 (by omega)) ?_
  show Ev X k_J1_charAt_3b067 (6, [some (vr 1000203), some (vi 1)], []) (MS I J cc ss) _
  refine ev_n (fr' := (13, [some (vr 1000203), some (vi 1)], [vi (opI (· &&& ·) 97 255)])) (S' := MS I J cc ss) 5 rfl ?_
  refine ev_eqi (show opI (· &&& ·) 97 255 = 97 by decide) ?_
  show Ev X k_J1_charAt_3b067 (13, [some (vr 1000203), some (vi 1)], [vi 97]) (MS I J cc ss) _
  refine ev_n (fr' := (14, [some (vr 1000203), some (vi 1)], [vi ((fI2c (Int32.ofInt 97)).toInt)])) (S' := MS I J cc ss) 1 rfl ?_
  refine ev_eqi (show (fI2c (Int32.ofInt 97)).toInt = 97 by decide) ?_
  show Ev X k_J1_charAt_3b067 (14, [some (vr 1000203), some (vi 1)], [vi 97]) (MS I J cc ss) _
  refine ev_r rfl rfl rfl ?_
  exact ⟨rfl, rfl⟩
theorem sp_ch_3_1 (X : AX) (I J : Nat → Nat → Int) (cc ss : Nat) : Ev X k_J0_charAt_5068e (0, [some (vr 1000103), some (vi 1)], []) (MS I J cc ss) (fun o T => o = .inl (some (vi 97)) ∧ T = MS I J cc ss) := by
  refine ev_n (fr' := (1, [some (vr 1000103), some (vi 1)], [vr 1000103])) (S' := MS I J cc ss) 1 rfl ?_
  refine ev_cv rfl rfl rfl ⟨Nat.le_of_ble_eq_true rfl, Nat.le_of_ble_eq_true rfl⟩ (sp_lat_3 X _ _ _ _) ?_
  show Ev X k_J0_charAt_5068e (4, [some (vr 1000103), some (vi 1)], [vi 1]) (MS I J cc ss) _
  refine ev_n (fr' := (12, [some (vr 1000103), some (vi 1)], [vi 1, vr 1000203])) (S' := MS I J cc ss) 4 rfl ?_
  refine ev_cv rfl rfl rfl ⟨Nat.le_of_ble_eq_true rfl, Nat.le_of_ble_eq_true rfl⟩ (sp_chB_3_1 X _ _ _ _) ?_
  show Ev X k_J0_charAt_5068e (15, [some (vr 1000103), some (vi 1)], [vi 97]) (MS I J cc ss) _
  refine ev_r rfl rfl rfl ?_
  exact ⟨rfl, rfl⟩
theorem sp_chB_3_2 (X : AX) (I J : Nat → Nat → Int) (cc ss : Nat) : Ev X k_J1_charAt_3b067 (0, [some (vr 1000203), some (vi 2)], []) (MS I J cc ss) (fun o T => o = .inl (some (vi 114)) ∧ T = MS I J cc ss) := by
  refine ev_n (fr' := (3, [some (vr 1000203), some (vi 2)], [vi 3, vi 2])) (S' := MS I J cc ss) 3 rfl ?_
  refine ev_cv rfl rfl rfl ⟨Nat.le_of_ble_eq_true rfl, Nat.le_of_ble_eq_true rfl⟩ (sp_chkIdx2 X _ 2 3 (by omega)) ?_
  show Ev X k_J1_charAt_3b067 (6, [some (vr 1000203), some (vi 2)], []) (MS I J cc ss) _
  refine ev_n (fr' := (13, [some (vr 1000203), some (vi 2)], [vi (opI (· &&& ·) 114 255)])) (S' := MS I J cc ss) 5 rfl ?_
  refine ev_eqi (show opI (· &&& ·) 114 255 = 114 by decide) ?_
  show Ev X k_J1_charAt_3b067 (13, [some (vr 1000203), some (vi 2)], [vi 114]) (MS I J cc ss) _
  refine ev_n (fr' := (14, [some (vr 1000203), some (vi 2)], [vi ((fI2c (Int32.ofInt 114)).toInt)])) (S' := MS I J cc ss) 1 rfl ?_
  refine ev_eqi (show (fI2c (Int32.ofInt 114)).toInt = 114 by decide) ?_
  show Ev X k_J1_charAt_3b067 (14, [some (vr 1000203), some (vi 2)], [vi 114]) (MS I J cc ss) _
  refine ev_r rfl rfl rfl ?_
  exact ⟨rfl, rfl⟩
theorem sp_ch_3_2 (X : AX) (I J : Nat → Nat → Int) (cc ss : Nat) : Ev X k_J0_charAt_5068e (0, [some (vr 1000103), some (vi 2)], []) (MS I J cc ss) (fun o T => o = .inl (some (vi 114)) ∧ T = MS I J cc ss) := by
  refine ev_n (fr' := (1, [some (vr 1000103), some (vi 2)], [vr 1000103])) (S' := MS I J cc ss) 1 rfl ?_
  refine ev_cv rfl rfl rfl ⟨Nat.le_of_ble_eq_true rfl, Nat.le_of_ble_eq_true rfl⟩ (sp_lat_3 X _ _ _ _) ?_
  show Ev X k_J0_charAt_5068e (4, [some (vr 1000103), some (vi 2)], [vi 1]) (MS I J cc ss) _
  refine ev_n (fr' := (12, [some (vr 1000103), some (vi 2)], [vi 2, vr 1000203])) (S' := MS I J cc ss) 4 rfl ?_
  refine ev_cv rfl rfl rfl ⟨Nat.le_of_ble_eq_true rfl, Nat.le_of_ble_eq_true rfl⟩ (sp_chB_3_2 X _ _ _ _) ?_
  show Ev X k_J0_charAt_5068e (15, [some (vr 1000103), some (vi 2)], [vi 114]) (MS I J cc ss) _
  refine ev_r rfl rfl rfl ?_
  exact ⟨rfl, rfl⟩
theorem sp_coder_4 (X : AX) (I J : Nat → Nat → Int) (cc ss : Nat) : Ev X k_J0_coder_7d493 (0, [some (vr 1000104)], []) (MS I J cc ss) (fun o T => o = .inl (some (vi 0)) ∧ T = MS I J cc ss) := by
  refine ev_n (fr' := (14, [some (vr 1000104)], [vi 0])) (S' := MS I J cc ss) 5 rfl ?_
  refine ev_r rfl rfl rfl ?_
  exact ⟨rfl, rfl⟩
theorem sp_lat_4 (X : AX) (I J : Nat → Nat → Int) (cc ss : Nat) : Ev X k_J0_isLatin1_aae02 (0, [some (vr 1000104)], []) (MS I J cc ss) (fun o T => o = .inl (some (vi 1)) ∧ T = MS I J cc ss) := by
  refine ev_n (fr' := (18, [some (vr 1000104)], [vi 1])) (S' := MS I J cc ss) 7 rfl ?_
  refine ev_r rfl rfl rfl ?_
  exact ⟨rfl, rfl⟩
theorem sp_len_4 (X : AX) (I J : Nat → Nat → Int) (cc ss : Nat) : Ev X k_J0_length_8abf5 (0, [some (vr 1000104)], []) (MS I J cc ss) (fun o T => o = .inl (some (vi 3)) ∧ T = MS I J cc ss) := by
  refine ev_n (fr' := (6, [some (vr 1000104)], [vr 1000104, vi 3])) (S' := MS I J cc ss) 4 rfl ?_
  refine ev_cv rfl rfl rfl ⟨Nat.le_of_ble_eq_true rfl, Nat.le_of_ble_eq_true rfl⟩ (sp_coder_4 X _ _ _ _) ?_
  show Ev X k_J0_length_8abf5 (9, [some (vr 1000104)], [vi 0, vi 3]) (MS I J cc ss) _
  refine ev_n (fr' := (10, [some (vr 1000104)], [vi (opI fShr 3 0)])) (S' := MS I J cc ss) 1 rfl ?_
  refine ev_eqi (show opI fShr 3 0 = 3 by decide) ?_
  show Ev X k_J0_length_8abf5 (10, [some (vr 1000104)], [vi 3]) (MS I J cc ss) _
  refine ev_r rfl rfl rfl ?_
  exact ⟨rfl, rfl⟩
theorem sp_chB_4_0 (X : AX) (I J : Nat → Nat → Int) (cc ss : Nat) : Ev X k_J1_charAt_3b067 (0, [some (vr 1000204), some (vi 0)], []) (MS I J cc ss) (fun o T => o = .inl (some (vi 98)) ∧ T = MS I J cc ss) := by
  refine ev_n (fr' := (3, [some (vr 1000204), some (vi 0)], [vi 3, vi 0])) (S' := MS I J cc ss) 3 rfl ?_
  refine ev_cv rfl rfl rfl ⟨Nat.le_of_ble_eq_true rfl, Nat.le_of_ble_eq_true rfl⟩ (sp_chkIdx2 X _ 0 3 (by omega)) ?_
  show Ev X k_J1_charAt_3b067 (6, [some (vr 1000204), some (vi 0)], []) (MS I J cc ss) _
  refine ev_n (fr' := (13, [some (vr 1000204), some (vi 0)], [vi (opI (· &&& ·) 98 255)])) (S' := MS I J cc ss) 5 rfl ?_
  refine ev_eqi (show opI (· &&& ·) 98 255 = 98 by decide) ?_
  show Ev X k_J1_charAt_3b067 (13, [some (vr 1000204), some (vi 0)], [vi 98]) (MS I J cc ss) _
  refine ev_n (fr' := (14, [some (vr 1000204), some (vi 0)], [vi ((fI2c (Int32.ofInt 98)).toInt)])) (S' := MS I J cc ss) 1 rfl ?_
  refine ev_eqi (show (fI2c (Int32.ofInt 98)).toInt = 98 by decide) ?_
  show Ev X k_J1_charAt_3b067 (14, [some (vr 1000204), some (vi 0)], [vi 98]) (MS I J cc ss) _
  refine ev_r rfl rfl rfl ?_
  exact ⟨rfl, rfl⟩
theorem sp_ch_4_0 (X : AX) (I J : Nat → Nat → Int) (cc ss : Nat) : Ev X k_J0_charAt_5068e (0, [some (vr 1000104), some (vi 0)], []) (MS I J cc ss) (fun o T => o = .inl (some (vi 98)) ∧ T = MS I J cc ss) := by
  refine ev_n (fr' := (1, [some (vr 1000104), some (vi 0)], [vr 1000104])) (S' := MS I J cc ss) 1 rfl ?_
  refine ev_cv rfl rfl rfl ⟨Nat.le_of_ble_eq_true rfl, Nat.le_of_ble_eq_true rfl⟩ (sp_lat_4 X _ _ _ _) ?_
  show Ev X k_J0_charAt_5068e (4, [some (vr 1000104), some (vi 0)], [vi 1]) (MS I J cc ss) _
  refine ev_n (fr' := (12, [some (vr 1000104), some (vi 0)], [vi 0, vr 1000204])) (S' := MS I J cc ss) 4 rfl ?_
  refine ev_cv rfl rfl rfl ⟨Nat.le_of_ble_eq_true rfl, Nat.le_of_ble_eq_true rfl⟩ (sp_chB_4_0 X _ _ _ _) ?_
  show Ev X k_J0_charAt_5068e (15, [some (vr 1000104), some (vi 0)], [vi 98]) (MS I J cc ss) _
  refine ev_r rfl rfl rfl ?_
  exact ⟨rfl, rfl⟩
theorem sp_chB_4_1 (X : AX) (I J : Nat → Nat → Int) (cc ss : Nat) : Ev X k_J1_charAt_3b067 (0, [some (vr 1000204), some (vi 1)], []) (MS I J cc ss) (fun o T => o = .inl (some (vi 111)) ∧ T = MS I J cc ss) := by
  refine ev_n (fr' := (3, [some (vr 1000204), some (vi 1)], [vi 3, vi 1])) (S' := MS I J cc ss) 3 rfl ?_
  refine ev_cv rfl rfl rfl ⟨Nat.le_of_ble_eq_true rfl, Nat.le_of_ble_eq_true rfl⟩ (sp_chkIdx2 X _ 1 3 (by omega)) ?_
  show Ev X k_J1_charAt_3b067 (6, [some (vr 1000204), some (vi 1)], []) (MS I J cc ss) _
  refine ev_n (fr' := (13, [some (vr 1000204), some (vi 1)], [vi (opI (· &&& ·) 111 255)])) (S' := MS I J cc ss) 5 rfl ?_
  refine ev_eqi (show opI (· &&& ·) 111 255 = 111 by decide) ?_
  show Ev X k_J1_charAt_3b067 (13, [some (vr 1000204), some (vi 1)], [vi 111]) (MS I J cc ss) _
  refine ev_n (fr' := (14, [some (vr 1000204), some (vi 1)], [vi ((fI2c (Int32.ofInt 111)).toInt)])) (S' := MS I J cc ss) 1 rfl ?_
  refine ev_eqi (show (fI2c (Int32.ofInt 111)).toInt = 111 by decide) ?_
  show Ev X k_J1_charAt_3b067 (14, [some (vr 1000204), some (vi 1)], [vi 111]) (MS I J cc ss) _
  refine ev_r rfl rfl rfl ?_
  exact ⟨rfl, rfl⟩
theorem sp_ch_4_1 (X : AX) (I J : Nat → Nat → Int) (cc ss : Nat) : Ev X k_J0_charAt_5068e (0, [some (vr 1000104), some (vi 1)], []) (MS I J cc ss) (fun o T => o = .inl (some (vi 111)) ∧ T = MS I J cc ss) := by
  refine ev_n (fr' := (1, [some (vr 1000104), some (vi 1)], [vr 1000104])) (S' := MS I J cc ss) 1 rfl ?_
  refine ev_cv rfl rfl rfl ⟨Nat.le_of_ble_eq_true rfl, Nat.le_of_ble_eq_true rfl⟩ (sp_lat_4 X _ _ _ _) ?_
  show Ev X k_J0_charAt_5068e (4, [some (vr 1000104), some (vi 1)], [vi 1]) (MS I J cc ss) _
  refine ev_n (fr' := (12, [some (vr 1000104), some (vi 1)], [vi 1, vr 1000204])) (S' := MS I J cc ss) 4 rfl ?_
  refine ev_cv rfl rfl rfl ⟨Nat.le_of_ble_eq_true rfl, Nat.le_of_ble_eq_true rfl⟩ (sp_chB_4_1 X _ _ _ _) ?_
  show Ev X k_J0_charAt_5068e (15, [some (vr 1000104), some (vi 1)], [vi 111]) (MS I J cc ss) _
  refine ev_r rfl rfl rfl ?_
  exact ⟨rfl, rfl⟩
theorem sp_chB_4_2 (X : AX) (I J : Nat → Nat → Int) (cc ss : Nat) : Ev X k_J1_charAt_3b067 (0, [some (vr 1000204), some (vi 2)], []) (MS I J cc ss) (fun o T => o = .inl (some (vi 120)) ∧ T = MS I J cc ss) := by
  refine ev_n (fr' := (3, [some (vr 1000204), some (vi 2)], [vi 3, vi 2])) (S' := MS I J cc ss) 3 rfl ?_
  refine ev_cv rfl rfl rfl ⟨Nat.le_of_ble_eq_true rfl, Nat.le_of_ble_eq_true rfl⟩ (sp_chkIdx2 X _ 2 3 (by omega)) ?_
  show Ev X k_J1_charAt_3b067 (6, [some (vr 1000204), some (vi 2)], []) (MS I J cc ss) _
  refine ev_n (fr' := (13, [some (vr 1000204), some (vi 2)], [vi (opI (· &&& ·) 120 255)])) (S' := MS I J cc ss) 5 rfl ?_
  refine ev_eqi (show opI (· &&& ·) 120 255 = 120 by decide) ?_
  show Ev X k_J1_charAt_3b067 (13, [some (vr 1000204), some (vi 2)], [vi 120]) (MS I J cc ss) _
  refine ev_n (fr' := (14, [some (vr 1000204), some (vi 2)], [vi ((fI2c (Int32.ofInt 120)).toInt)])) (S' := MS I J cc ss) 1 rfl ?_
  refine ev_eqi (show (fI2c (Int32.ofInt 120)).toInt = 120 by decide) ?_
  show Ev X k_J1_charAt_3b067 (14, [some (vr 1000204), some (vi 2)], [vi 120]) (MS I J cc ss) _
  refine ev_r rfl rfl rfl ?_
  exact ⟨rfl, rfl⟩
theorem sp_ch_4_2 (X : AX) (I J : Nat → Nat → Int) (cc ss : Nat) : Ev X k_J0_charAt_5068e (0, [some (vr 1000104), some (vi 2)], []) (MS I J cc ss) (fun o T => o = .inl (some (vi 120)) ∧ T = MS I J cc ss) := by
  refine ev_n (fr' := (1, [some (vr 1000104), some (vi 2)], [vr 1000104])) (S' := MS I J cc ss) 1 rfl ?_
  refine ev_cv rfl rfl rfl ⟨Nat.le_of_ble_eq_true rfl, Nat.le_of_ble_eq_true rfl⟩ (sp_lat_4 X _ _ _ _) ?_
  show Ev X k_J0_charAt_5068e (4, [some (vr 1000104), some (vi 2)], [vi 1]) (MS I J cc ss) _
  refine ev_n (fr' := (12, [some (vr 1000104), some (vi 2)], [vi 2, vr 1000204])) (S' := MS I J cc ss) 4 rfl ?_
  refine ev_cv rfl rfl rfl ⟨Nat.le_of_ble_eq_true rfl, Nat.le_of_ble_eq_true rfl⟩ (sp_chB_4_2 X _ _ _ _) ?_
  show Ev X k_J0_charAt_5068e (15, [some (vr 1000104), some (vi 2)], [vi 120]) (MS I J cc ss) _
  refine ev_r rfl rfl rfl ?_
  exact ⟨rfl, rfl⟩
theorem sp_coder_5 (X : AX) (I J : Nat → Nat → Int) (cc ss : Nat) : Ev X k_J0_coder_7d493 (0, [some (vr 1000105)], []) (MS I J cc ss) (fun o T => o = .inl (some (vi 0)) ∧ T = MS I J cc ss) := by
  refine ev_n (fr' := (14, [some (vr 1000105)], [vi 0])) (S' := MS I J cc ss) 5 rfl ?_
  refine ev_r rfl rfl rfl ?_
  exact ⟨rfl, rfl⟩
theorem sp_lat_5 (X : AX) (I J : Nat → Nat → Int) (cc ss : Nat) : Ev X k_J0_isLatin1_aae02 (0, [some (vr 1000105)], []) (MS I J cc ss) (fun o T => o = .inl (some (vi 1)) ∧ T = MS I J cc ss) := by
  refine ev_n (fr' := (18, [some (vr 1000105)], [vi 1])) (S' := MS I J cc ss) 7 rfl ?_
  refine ev_r rfl rfl rfl ?_
  exact ⟨rfl, rfl⟩
theorem sp_len_5 (X : AX) (I J : Nat → Nat → Int) (cc ss : Nat) : Ev X k_J0_length_8abf5 (0, [some (vr 1000105)], []) (MS I J cc ss) (fun o T => o = .inl (some (vi 4)) ∧ T = MS I J cc ss) := by
  refine ev_n (fr' := (6, [some (vr 1000105)], [vr 1000105, vi 4])) (S' := MS I J cc ss) 4 rfl ?_
  refine ev_cv rfl rfl rfl ⟨Nat.le_of_ble_eq_true rfl, Nat.le_of_ble_eq_true rfl⟩ (sp_coder_5 X _ _ _ _) ?_
  show Ev X k_J0_length_8abf5 (9, [some (vr 1000105)], [vi 0, vi 4]) (MS I J cc ss) _
  refine ev_n (fr' := (10, [some (vr 1000105)], [vi (opI fShr 4 0)])) (S' := MS I J cc ss) 1 rfl ?_
  refine ev_eqi (show opI fShr 4 0 = 4 by decide) ?_
  show Ev X k_J0_length_8abf5 (10, [some (vr 1000105)], [vi 4]) (MS I J cc ss) _
  refine ev_r rfl rfl rfl ?_
  exact ⟨rfl, rfl⟩
theorem sp_chB_5_0 (X : AX) (I J : Nat → Nat → Int) (cc ss : Nat) : Ev X k_J1_charAt_3b067 (0, [some (vr 1000205), some (vi 0)], []) (MS I J cc ss) (fun o T => o = .inl (some (vi 108)) ∧ T = MS I J cc ss) := by
  refine ev_n (fr' := (3, [some (vr 1000205), some (vi 0)], [vi 4, vi 0])) (S' := MS I J cc ss) 3 rfl ?_
  refine ev_cv rfl rfl rfl ⟨Nat.le_of_ble_eq_true rfl, Nat.le_of_ble_eq_true rfl⟩ (sp_chkIdx2 X _ 0 4 (by omega)) ?_
  show Ev X k_J1_charAt_3b067 (6, [some (vr 1000205), some (vi 0)], []) (MS I J cc ss) _
  refine ev_n (fr' := (13, [some (vr 1000205), some (vi 0)], [vi (opI (· &&& ·) 108 255)])) (S' := MS I J cc ss) 5 rfl ?_
  refine ev_eqi (show opI (· &&& ·) 108 255 = 108 by decide) ?_
  show Ev X k_J1_charAt_3b067 (13, [some (vr 1000205), some (vi 0)], [vi 108]) (MS I J cc ss) _
  refine ev_n (fr' := (14, [some (vr 1000205), some (vi 0)], [vi ((fI2c (Int32.ofInt 108)).toInt)])) (S' := MS I J cc ss) 1 rfl ?_
  refine ev_eqi (show (fI2c (Int32.ofInt 108)).toInt = 108 by decide) ?_
  show Ev X k_J1_charAt_3b067 (14, [some (vr 1000205), some (vi 0)], [vi 108]) (MS I J cc ss) _
  refine ev_r rfl rfl rfl ?_
  exact ⟨rfl, rfl⟩
theorem sp_ch_5_0 (X : AX) (I J : Nat → Nat → Int) (cc ss : Nat) : Ev X k_J0_charAt_5068e (0, [some (vr 1000105), some (vi 0)], []) (MS I J cc ss) (fun o T => o = .inl (some (vi 108)) ∧ T = MS I J cc ss) := by
  refine ev_n (fr' := (1, [some (vr 1000105), some (vi 0)], [vr 1000105])) (S' := MS I J cc ss) 1 rfl ?_
  refine ev_cv rfl rfl rfl ⟨Nat.le_of_ble_eq_true rfl, Nat.le_of_ble_eq_true rfl⟩ (sp_lat_5 X _ _ _ _) ?_
  show Ev X k_J0_charAt_5068e (4, [some (vr 1000105), some (vi 0)], [vi 1]) (MS I J cc ss) _
  refine ev_n (fr' := (12, [some (vr 1000105), some (vi 0)], [vi 0, vr 1000205])) (S' := MS I J cc ss) 4 rfl ?_
  refine ev_cv rfl rfl rfl ⟨Nat.le_of_ble_eq_true rfl, Nat.le_of_ble_eq_true rfl⟩ (sp_chB_5_0 X _ _ _ _) ?_
  show Ev X k_J0_charAt_5068e (15, [some (vr 1000105), some (vi 0)], [vi 108]) (MS I J cc ss) _
  refine ev_r rfl rfl rfl ?_
  exact ⟨rfl, rfl⟩
theorem sp_chB_5_1 (X : AX) (I J : Nat → Nat → Int) (cc ss : Nat) : Ev X k_J1_charAt_3b067 (0, [some (vr 1000205), some (vi 1)], []) (MS I J cc ss) (fun o T => o = .inl (some (vi 105)) ∧ T = MS I J cc ss) := by
  refine ev_n (fr' := (3, [some (vr 1000205), some (vi 1)], [vi 4, vi 1])) (S' := MS I J cc ss) 3 rfl ?_
  refine ev_cv rfl rfl rfl ⟨Nat.le_of_ble_eq_true rfl, Nat.le_of_ble_eq_true rfl⟩ (sp_chkIdx2 X _ 1 4 (by omega)) ?_
  show Ev X k_J1_charAt_3b067 (6, [some (vr 1000205), some (vi 1)], []) (MS I J cc ss) _
  refine ev_n (fr' := (13, [some (vr 1000205), some (vi 1)], [vi (opI (· &&& ·) 105 255)])) (S' := MS I J cc ss) 5 rfl ?_
  refine ev_eqi (show opI (· &&& ·) 105 255 = 105 by decide) ?_
  show Ev X k_J1_charAt_3b067 (13, [some (vr 1000205), some (vi 1)], [vi 105]) (MS I J cc ss) _
  refine ev_n (fr' := (14, [some (vr 1000205), some (vi 1)], [vi ((fI2c (Int32.ofInt 105)).toInt)])) (S' := MS I J cc ss) 1 rfl ?_
  refine ev_eqi (show (fI2c (Int32.ofInt 105)).toInt = 105 by decide) ?_
  show Ev X k_J1_charAt_3b067 (14, [some (vr 1000205), some (vi 1)], [vi 105]) (MS I J cc ss) _
  refine ev_r rfl rfl rfl ?_
  exact ⟨rfl, rfl⟩
theorem sp_ch_5_1 (X : AX) (I J : Nat → Nat → Int) (cc ss : Nat) : Ev X k_J0_charAt_5068e (0, [some (vr 1000105), some (vi 1)], []) (MS I J cc ss) (fun o T => o = .inl (some (vi 105)) ∧ T = MS I J cc ss) := by
  refine ev_n (fr' := (1, [some (vr 1000105), some (vi 1)], [vr 1000105])) (S' := MS I J cc ss) 1 rfl ?_
  refine ev_cv rfl rfl rfl ⟨Nat.le_of_ble_eq_true rfl, Nat.le_of_ble_eq_true rfl⟩ (sp_lat_5 X _ _ _ _) ?_
  show Ev X k_J0_charAt_5068e (4, [some (vr 1000105), some (vi 1)], [vi 1]) (MS I J cc ss) _
  refine ev_n (fr' := (12, [some (vr 1000105), some (vi 1)], [vi 1, vr 1000205])) (S' := MS I J cc ss) 4 rfl ?_
  refine ev_cv rfl rfl rfl ⟨Nat.le_of_ble_eq_true rfl, Nat.le_of_ble_eq_true rfl⟩ (sp_chB_5_1 X _ _ _ _) ?_
  show Ev X k_J0_charAt_5068e (15, [some (vr 1000105), some (vi 1)], [vi 105]) (MS I J cc ss) _
  refine ev_r rfl rfl rfl ?_
  exact ⟨rfl, rfl⟩
theorem sp_chB_5_2 (X : AX) (I J : Nat → Nat → Int) (cc ss : Nat) : Ev X k_J1_charAt_3b067 (0, [some (vr 1000205), some (vi 2)], []) (MS I J cc ss) (fun o T => o = .inl (some (vi 110)) ∧ T = MS I J cc ss) := by
  refine ev_n (fr' := (3, [some (vr 1000205), some (vi 2)], [vi 4, vi 2])) (S' := MS I J cc ss) 3 rfl ?_
  refine ev_cv rfl rfl rfl ⟨Nat.le_of_ble_eq_true rfl, Nat.le_of_ble_eq_true rfl⟩ (sp_chkIdx2 X _ 2 4 (by omega)) ?_
  show Ev X k_J1_charAt_3b067 (6, [some (vr 1000205), some (vi 2)], []) (MS I J cc ss) _
  refine ev_n (fr' := (13, [some (vr 1000205), some (vi 2)], [vi (opI (· &&& ·) 110 255)])) (S' := MS I J cc ss) 5 rfl ?_
  refine ev_eqi (show opI (· &&& ·) 110 255 = 110 by decide) ?_
  show Ev X k_J1_charAt_3b067 (13, [some (vr 1000205), some (vi 2)], [vi 110]) (MS I J cc ss) _
  refine ev_n (fr' := (14, [some (vr 1000205), some (vi 2)], [vi ((fI2c (Int32.ofInt 110)).toInt)])) (S' := MS I J cc ss) 1 rfl ?_
  refine ev_eqi (show (fI2c (Int32.ofInt 110)).toInt = 110 by decide) ?_
  show Ev X k_J1_charAt_3b067 (14, [some (vr 1000205), some (vi 2)], [vi 110]) (MS I J cc ss) _
  refine ev_r rfl rfl rfl ?_
  exact ⟨rfl, rfl⟩
theorem sp_ch_5_2 (X : AX) (I J : Nat → Nat → Int) (cc ss : Nat) : Ev X k_J0_charAt_5068e (0, [some (vr 1000105), some (vi 2)], []) (MS I J cc ss) (fun o T => o = .inl (some (vi 110)) ∧ T = MS I J cc ss) := by
  refine ev_n (fr' := (1, [some (vr 1000105), some (vi 2)], [vr 1000105])) (S' := MS I J cc ss) 1 rfl ?_
  refine ev_cv rfl rfl rfl ⟨Nat.le_of_ble_eq_true rfl, Nat.le_of_ble_eq_true rfl⟩ (sp_lat_5 X _ _ _ _) ?_
  show Ev X k_J0_charAt_5068e (4, [some (vr 1000105), some (vi 2)], [vi 1]) (MS I J cc ss) _
  refine ev_n (fr' := (12, [some (vr 1000105), some (vi 2)], [vi 2, vr 1000205])) (S' := MS I J cc ss) 4 rfl ?_
  refine ev_cv rfl rfl rfl ⟨Nat.le_of_ble_eq_true rfl, Nat.le_of_ble_eq_true rfl⟩ (sp_chB_5_2 X _ _ _ _) ?_
  show Ev X k_J0_charAt_5068e (15, [some (vr 1000105), some (vi 2)], [vi 110]) (MS I J cc ss) _
  refine ev_r rfl rfl rfl ?_
  exact ⟨rfl, rfl⟩
theorem sp_chB_5_3 (X : AX) (I J : Nat → Nat → Int) (cc ss : Nat) : Ev X k_J1_charAt_3b067 (0, [some (vr 1000205), some (vi 3)], []) (MS I J cc ss) (fun o T => o = .inl (some (vi 101)) ∧ T = MS I J cc ss) := by
  refine ev_n (fr' := (3, [some (vr 1000205), some (vi 3)], [vi 4, vi 3])) (S' := MS I J cc ss) 3 rfl ?_
  refine ev_cv rfl rfl rfl ⟨Nat.le_of_ble_eq_true rfl, Nat.le_of_ble_eq_true rfl⟩ (sp_chkIdx2 X _ 3 4 (by omega)) ?_
  show Ev X k_J1_charAt_3b067 (6, [some (vr 1000205), some (vi 3)], []) (MS I J cc ss) _
  refine ev_n (fr' := (13, [some (vr 1000205), some (vi 3)], [vi (opI (· &&& ·) 101 255)])) (S' := MS I J cc ss) 5 rfl ?_
  refine ev_eqi (show opI (· &&& ·) 101 255 = 101 by decide) ?_
  show Ev X k_J1_charAt_3b067 (13, [some (vr 1000205), some (vi 3)], [vi 101]) (MS I J cc ss) _
  refine ev_n (fr' := (14, [some (vr 1000205), some (vi 3)], [vi ((fI2c (Int32.ofInt 101)).toInt)])) (S' := MS I J cc ss) 1 rfl ?_
  refine ev_eqi (show (fI2c (Int32.ofInt 101)).toInt = 101 by decide) ?_
  show Ev X k_J1_charAt_3b067 (14, [some (vr 1000205), some (vi 3)], [vi 101]) (MS I J cc ss) _
  refine ev_r rfl rfl rfl ?_
  exact ⟨rfl, rfl⟩
theorem sp_ch_5_3 (X : AX) (I J : Nat → Nat → Int) (cc ss : Nat) : Ev X k_J0_charAt_5068e (0, [some (vr 1000105), some (vi 3)], []) (MS I J cc ss) (fun o T => o = .inl (some (vi 101)) ∧ T = MS I J cc ss) := by
  refine ev_n (fr' := (1, [some (vr 1000105), some (vi 3)], [vr 1000105])) (S' := MS I J cc ss) 1 rfl ?_
  refine ev_cv rfl rfl rfl ⟨Nat.le_of_ble_eq_true rfl, Nat.le_of_ble_eq_true rfl⟩ (sp_lat_5 X _ _ _ _) ?_
  show Ev X k_J0_charAt_5068e (4, [some (vr 1000105), some (vi 3)], [vi 1]) (MS I J cc ss) _
  refine ev_n (fr' := (12, [some (vr 1000105), some (vi 3)], [vi 3, vr 1000205])) (S' := MS I J cc ss) 4 rfl ?_
  refine ev_cv rfl rfl rfl ⟨Nat.le_of_ble_eq_true rfl, Nat.le_of_ble_eq_true rfl⟩ (sp_chB_5_3 X _ _ _ _) ?_
  show Ev X k_J0_charAt_5068e (15, [some (vr 1000105), some (vi 3)], [vi 101]) (MS I J cc ss) _
  refine ev_r rfl rfl rfl ?_
  exact ⟨rfl, rfl⟩
theorem sp_coder_6 (X : AX) (I J : Nat → Nat → Int) (cc ss : Nat) : Ev X k_J0_coder_7d493 (0, [some (vr 1000106)], []) (MS I J cc ss) (fun o T => o = .inl (some (vi 0)) ∧ T = MS I J cc ss) := by
  refine ev_n (fr' := (14, [some (vr 1000106)], [vi 0])) (S' := MS I J cc ss) 5 rfl ?_
  refine ev_r rfl rfl rfl ?_
  exact ⟨rfl, rfl⟩
theorem sp_lat_6 (X : AX) (I J : Nat → Nat → Int) (cc ss : Nat) : Ev X k_J0_isLatin1_aae02 (0, [some (vr 1000106)], []) (MS I J cc ss) (fun o T => o = .inl (some (vi 1)) ∧ T = MS I J cc ss) := by
  refine ev_n (fr' := (18, [some (vr 1000106)], [vi 1])) (S' := MS I J cc ss) 7 rfl ?_
  refine ev_r rfl rfl rfl ?_
  exact ⟨rfl, rfl⟩
theorem sp_len_6 (X : AX) (I J : Nat → Nat → Int) (cc ss : Nat) : Ev X k_J0_length_8abf5 (0, [some (vr 1000106)], []) (MS I J cc ss) (fun o T => o = .inl (some (vi 4)) ∧ T = MS I J cc ss) := by
  refine ev_n (fr' := (6, [some (vr 1000106)], [vr 1000106, vi 4])) (S' := MS I J cc ss) 4 rfl ?_
  refine ev_cv rfl rfl rfl ⟨Nat.le_of_ble_eq_true rfl, Nat.le_of_ble_eq_true rfl⟩ (sp_coder_6 X _ _ _ _) ?_
  show Ev X k_J0_length_8abf5 (9, [some (vr 1000106)], [vi 0, vi 4]) (MS I J cc ss) _
  refine ev_n (fr' := (10, [some (vr 1000106)], [vi (opI fShr 4 0)])) (S' := MS I J cc ss) 1 rfl ?_
  refine ev_eqi (show opI fShr 4 0 = 4 by decide) ?_
  show Ev X k_J0_length_8abf5 (10, [some (vr 1000106)], [vi 4]) (MS I J cc ss) _
  refine ev_r rfl rfl rfl ?_
  exact ⟨rfl, rfl⟩
theorem sp_chB_6_0 (X : AX) (I J : Nat → Nat → Int) (cc ss : Nat) : Ev X k_J1_charAt_3b067 (0, [some (vr 1000206), some (vi 0)], []) (MS I J cc ss) (fun o T => o = .inl (some (vi 105)) ∧ T = MS I J cc ss) := by
  refine ev_n (fr' := (3, [some (vr 1000206), some (vi 0)], [vi 4, vi 0])) (S' := MS I J cc ss) 3 rfl ?_
  refine ev_cv rfl rfl rfl ⟨Nat.le_of_ble_eq_true rfl, Nat.le_of_ble_eq_true rfl⟩ (sp_chkIdx2 X _ 0 4 (by omega)) ?_
  show Ev X k_J1_charAt_3b067 (6, [some (vr 1000206), some (vi 0)], []) (MS I J cc ss) _
  refine ev_n (fr' := (13, [some (vr 1000206), some (vi 0)], [vi (opI (· &&& ·) 105 255)])) (S' := MS I J cc ss) 5 rfl ?_
  refine ev_eqi (show opI (· &&& ·) 105 255 = 105 by decide) ?_
  show Ev X k_J1_charAt_3b067 (13, [some (vr 1000206), some (vi 0)], [vi 105]) (MS I J cc ss) _
  refine ev_n (fr' := (14, [some (vr 1000206), some (vi 0)], [vi ((fI2c (Int32.ofInt 105)).toInt)])) (S' := MS I J cc ss) 1 rfl ?_
  refine ev_eqi (show (fI2c (Int32.ofInt 105)).toInt = 105 by decide) ?_
  show Ev X k_J1_charAt_3b067 (14, [some (vr 1000206), some (vi 0)], [vi 105]) (MS I J cc ss) _
  refine ev_r rfl rfl rfl ?_
  exact ⟨rfl, rfl⟩
theorem sp_ch_6_0 (X : AX) (I J : Nat → Nat → Int) (cc ss : Nat) : Ev X k_J0_charAt_5068e (0, [some (vr 1000106), some (vi 0)], []) (MS I J cc ss) (fun o T => o = .inl (some (vi 105)) ∧ T = MS I J cc ss) := by
  refine ev_n (fr' := (1, [some (vr 1000106), some (vi 0)], [vr 1000106])) (S' := MS I J cc ss) 1 rfl ?_
  refine ev_cv rfl rfl rfl ⟨Nat.le_of_ble_eq_true rfl, Nat.le_of_ble_eq_true rfl⟩ (sp_lat_6 X _ _ _ _) ?_
  show Ev X k_J0_charAt_5068e (4, [some (vr 1000106), some (vi 0)], [vi 1]) (MS I J cc ss) _
  refine ev_n (fr' := (12, [some (vr 1000106), some (vi 0)], [vi 0, vr 1000206])) (S' := MS I J cc ss) 4 rfl ?_
  refine ev_cv rfl rfl rfl ⟨Nat.le_of_ble_eq_true rfl, Nat.le_of_ble_eq_true rfl⟩ (sp_chB_6_0 X _ _ _ _) ?_
  show Ev X k_J0_charAt_5068e (15, [some (vr 1000106), some (vi 0)], [vi 105]) (MS I J cc ss) _
  refine ev_r rfl rfl rfl ?_
  exact ⟨rfl, rfl⟩
theorem sp_chB_6_1 (X : AX) (I J : Nat → Nat → Int) (cc ss : Nat) : Ev X k_J1_charAt_3b067 (0, [some (vr 1000206), some (vi 1)], []) (MS I J cc ss) (fun o T => o = .inl (some (vi 99)) ∧ T = MS I J cc ss) := by
  refine ev_n (fr' := (3, [some (vr 1000206), some (vi 1)], [vi 4, vi 1])) (S' := MS I J cc ss) 3 rfl ?_
  refine ev_cv rfl rfl rfl ⟨Nat.le_of_ble_eq_true rfl, Nat.le_of_ble_eq_true rfl⟩ (sp_chkIdx2 X _ 1 4 (by omega)) ?_
  show Ev X k_J1_charAt_3b067 (6, [some (vr 1000206), some (vi 1)], []) (MS I J cc ss) _
  refine ev_n (fr' := (13, [some (vr 1000206), some (vi 1)], [vi (opI (· &&& ·) 99 255)])) (S' := MS I J cc ss) 5 rfl ?_
  refine ev_eqi (show opI (· &&& ·) 99 255 = 99 by decide) ?_
  show Ev X k_J1_charAt_3b067 (13, [some (vr 1000206), some (vi 1)], [vi 99]) (MS I J cc ss) _
  refine ev_n (fr' := (14, [some (vr 1000206), some (vi 1)], [vi ((fI2c (Int32.ofInt 99)).toInt)])) (S' := MS I J cc ss) 1 rfl ?_
  refine ev_eqi (show (fI2c (Int32.ofInt 99)).toInt = 99 by decide) ?_
  show Ev X k_J1_charAt_3b067 (14, [some (vr 1000206), some (vi 1)], [vi 99]) (MS I J cc ss) _
  refine ev_r rfl rfl rfl ?_
  exact ⟨rfl, rfl⟩
theorem sp_ch_6_1 (X : AX) (I J : Nat → Nat → Int) (cc ss : Nat) : Ev X k_J0_charAt_5068e (0, [some (vr 1000106), some (vi 1)], []) (MS I J cc ss) (fun o T => o = .inl (some (vi 99)) ∧ T = MS I J cc ss) := by
  refine ev_n (fr' := (1, [some (vr 1000106), some (vi 1)], [vr 1000106])) (S' := MS I J cc ss) 1 rfl ?_
  refine ev_cv rfl rfl rfl ⟨Nat.le_of_ble_eq_true rfl, Nat.le_of_ble_eq_true rfl⟩ (sp_lat_6 X _ _ _ _) ?_
  show Ev X k_J0_charAt_5068e (4, [some (vr 1000106), some (vi 1)], [vi 1]) (MS I J cc ss) _
  refine ev_n (fr' := (12, [some (vr 1000106), some (vi 1)], [vi 1, vr 1000206])) (S' := MS I J cc ss) 4 rfl ?_
  refine ev_cv rfl rfl rfl ⟨Nat.le_of_ble_eq_true rfl, Nat.le_of_ble_eq_true rfl⟩ (sp_chB_6_1 X _ _ _ _) ?_
  show Ev X k_J0_charAt_5068e (15, [some (vr 1000106), some (vi 1)], [vi 99]) (MS I J cc ss) _
  refine ev_r rfl rfl rfl ?_
  exact ⟨rfl, rfl⟩
theorem sp_chB_6_2 (X : AX) (I J : Nat → Nat → Int) (cc ss : Nat) : Ev X k_J1_charAt_3b067 (0, [some (vr 1000206), some (vi 2)], []) (MS I J cc ss) (fun o T => o = .inl (some (vi 111)) ∧ T = MS I J cc ss) := by
  refine ev_n (fr' := (3, [some (vr 1000206), some (vi 2)], [vi 4, vi 2])) (S' := MS I J cc ss) 3 rfl ?_
  refine ev_cv rfl rfl rfl ⟨Nat.le_of_ble_eq_true rfl, Nat.le_of_ble_eq_true rfl⟩ (sp_chkIdx2 X _ 2 4 (by omega)) ?_
  show Ev X k_J1_charAt_3b067 (6, [some (vr 1000206), some (vi 2)], []) (MS I J cc ss) _
  refine ev_n (fr' := (13, [some (vr 1000206), some (vi 2)], [vi (opI (· &&& ·) 111 255)])) (S' := MS I J cc ss) 5 rfl ?_
  refine ev_eqi (show opI (· &&& ·) 111 255 = 111 by decide) ?_
  show Ev X k_J1_charAt_3b067 (13, [some (vr 1000206), some (vi 2)], [vi 111]) (MS I J cc ss) _
  refine ev_n (fr' := (14, [some (vr 1000206), some (vi 2)], [vi ((fI2c (Int32.ofInt 111)).toInt)])) (S' := MS I J cc ss) 1 rfl ?_
  refine ev_eqi (show (fI2c (Int32.ofInt 111)).toInt = 111 by decide) ?_
  show Ev X k_J1_charAt_3b067 (14, [some (vr 1000206), some (vi 2)], [vi 111]) (MS I J cc ss) _
  refine ev_r rfl rfl rfl ?_
  exact ⟨rfl, rfl⟩
theorem sp_ch_6_2 (X : AX) (I J : Nat → Nat → Int) (cc ss : Nat) : Ev X k_J0_charAt_5068e (0, [some (vr 1000106), some (vi 2)], []) (MS I J cc ss) (fun o T => o = .inl (some (vi 111)) ∧ T = MS I J cc ss) := by
  refine ev_n (fr' := (1, [some (vr 1000106), some (vi 2)], [vr 1000106])) (S' := MS I J cc ss) 1 rfl ?_
  refine ev_cv rfl rfl rfl ⟨Nat.le_of_ble_eq_true rfl, Nat.le_of_ble_eq_true rfl⟩ (sp_lat_6 X _ _ _ _) ?_
  show Ev X k_J0_charAt_5068e (4, [some (vr 1000106), some (vi 2)], [vi 1]) (MS I J cc ss) _
  refine ev_n (fr' := (12, [some (vr 1000106), some (vi 2)], [vi 2, vr 1000206])) (S' := MS I J cc ss) 4 rfl ?_
  refine ev_cv rfl rfl rfl ⟨Nat.le_of_ble_eq_true rfl, Nat.le_of_ble_eq_true rfl⟩ (sp_chB_6_2 X _ _ _ _) ?_
  show Ev X k_J0_charAt_5068e (15, [some (vr 1000106), some (vi 2)], [vi 111]) (MS I J cc ss) _
  refine ev_r rfl rfl rfl ?_
  exact ⟨rfl, rfl⟩
theorem sp_chB_6_3 (X : AX) (I J : Nat → Nat → Int) (cc ss : Nat) : Ev X k_J1_charAt_3b067 (0, [some (vr 1000206), some (vi 3)], []) (MS I J cc ss) (fun o T => o = .inl (some (vi 110)) ∧ T = MS I J cc ss) := by
  refine ev_n (fr' := (3, [some (vr 1000206), some (vi 3)], [vi 4, vi 3])) (S' := MS I J cc ss) 3 rfl ?_
  refine ev_cv rfl rfl rfl ⟨Nat.le_of_ble_eq_true rfl, Nat.le_of_ble_eq_true rfl⟩ (sp_chkIdx2 X _ 3 4 (by omega)) ?_
  show Ev X k_J1_charAt_3b067 (6, [some (vr 1000206), some (vi 3)], []) (MS I J cc ss) _
  refine ev_n (fr' := (13, [some (vr 1000206), some (vi 3)], [vi (opI (· &&& ·) 110 255)])) (S' := MS I J cc ss) 5 rfl ?_
  refine ev_eqi (show opI (· &&& ·) 110 255 = 110 by decide) ?_
  show Ev X k_J1_charAt_3b067 (13, [some (vr 1000206), some (vi 3)], [vi 110]) (MS I J cc ss) _
  refine ev_n (fr' := (14, [some (vr 1000206), some (vi 3)], [vi ((fI2c (Int32.ofInt 110)).toInt)])) (S' := MS I J cc ss) 1 rfl ?_
  refine ev_eqi (show (fI2c (Int32.ofInt 110)).toInt = 110 by decide) ?_
  show Ev X k_J1_charAt_3b067 (14, [some (vr 1000206), some (vi 3)], [vi 110]) (MS I J cc ss) _
  refine ev_r rfl rfl rfl ?_
  exact ⟨rfl, rfl⟩
theorem sp_ch_6_3 (X : AX) (I J : Nat → Nat → Int) (cc ss : Nat) : Ev X k_J0_charAt_5068e (0, [some (vr 1000106), some (vi 3)], []) (MS I J cc ss) (fun o T => o = .inl (some (vi 110)) ∧ T = MS I J cc ss) := by
  refine ev_n (fr' := (1, [some (vr 1000106), some (vi 3)], [vr 1000106])) (S' := MS I J cc ss) 1 rfl ?_
  refine ev_cv rfl rfl rfl ⟨Nat.le_of_ble_eq_true rfl, Nat.le_of_ble_eq_true rfl⟩ (sp_lat_6 X _ _ _ _) ?_
  show Ev X k_J0_charAt_5068e (4, [some (vr 1000106), some (vi 3)], [vi 1]) (MS I J cc ss) _
  refine ev_n (fr' := (12, [some (vr 1000106), some (vi 3)], [vi 3, vr 1000206])) (S' := MS I J cc ss) 4 rfl ?_
  refine ev_cv rfl rfl rfl ⟨Nat.le_of_ble_eq_true rfl, Nat.le_of_ble_eq_true rfl⟩ (sp_chB_6_3 X _ _ _ _) ?_
  show Ev X k_J0_charAt_5068e (15, [some (vr 1000106), some (vi 3)], [vi 110]) (MS I J cc ss) _
  refine ev_r rfl rfl rfl ?_
  exact ⟨rfl, rfl⟩
theorem sp_coder_7 (X : AX) (I J : Nat → Nat → Int) (cc ss : Nat) : Ev X k_J0_coder_7d493 (0, [some (vr 1000107)], []) (MS I J cc ss) (fun o T => o = .inl (some (vi 0)) ∧ T = MS I J cc ss) := by
  refine ev_n (fr' := (14, [some (vr 1000107)], [vi 0])) (S' := MS I J cc ss) 5 rfl ?_
  refine ev_r rfl rfl rfl ?_
  exact ⟨rfl, rfl⟩
theorem sp_lat_7 (X : AX) (I J : Nat → Nat → Int) (cc ss : Nat) : Ev X k_J0_isLatin1_aae02 (0, [some (vr 1000107)], []) (MS I J cc ss) (fun o T => o = .inl (some (vi 1)) ∧ T = MS I J cc ss) := by
  refine ev_n (fr' := (18, [some (vr 1000107)], [vi 1])) (S' := MS I J cc ss) 7 rfl ?_
  refine ev_r rfl rfl rfl ?_
  exact ⟨rfl, rfl⟩
theorem sp_len_7 (X : AX) (I J : Nat → Nat → Int) (cc ss : Nat) : Ev X k_J0_length_8abf5 (0, [some (vr 1000107)], []) (MS I J cc ss) (fun o T => o = .inl (some (vi 2)) ∧ T = MS I J cc ss) := by
  refine ev_n (fr' := (6, [some (vr 1000107)], [vr 1000107, vi 2])) (S' := MS I J cc ss) 4 rfl ?_
  refine ev_cv rfl rfl rfl ⟨Nat.le_of_ble_eq_true rfl, Nat.le_of_ble_eq_true rfl⟩ (sp_coder_7 X _ _ _ _) ?_
  show Ev X k_J0_length_8abf5 (9, [some (vr 1000107)], [vi 0, vi 2]) (MS I J cc ss) _
  refine ev_n (fr' := (10, [some (vr 1000107)], [vi (opI fShr 2 0)])) (S' := MS I J cc ss) 1 rfl ?_
  refine ev_eqi (show opI fShr 2 0 = 2 by decide) ?_
  show Ev X k_J0_length_8abf5 (10, [some (vr 1000107)], [vi 2]) (MS I J cc ss) _
  refine ev_r rfl rfl rfl ?_
  exact ⟨rfl, rfl⟩
theorem sp_chB_7_0 (X : AX) (I J : Nat → Nat → Int) (cc ss : Nat) : Ev X k_J1_charAt_3b067 (0, [some (vr 1000207), some (vi 0)], []) (MS I J cc ss) (fun o T => o = .inl (some (vi 97)) ∧ T = MS I J cc ss) := by
  refine ev_n (fr' := (3, [some (vr 1000207), some (vi 0)], [vi 2, vi 0])) (S' := MS I J cc ss) 3 rfl ?_
  refine ev_cv rfl rfl rfl ⟨Nat.le_of_ble_eq_true rfl, Nat.le_of_ble_eq_true rfl⟩ (sp_chkIdx2 X _ 0 2 (by omega)) ?_
  show Ev X k_J1_charAt_3b067 (6, [some (vr 1000207), some (vi 0)], []) (MS I J cc ss) _
  refine ev_n (fr' := (13, [some (vr 1000207), some (vi 0)], [vi (opI (· &&& ·) 97 255)])) (S' := MS I J cc ss) 5 rfl ?_
  refine ev_eqi (show opI (· &&& ·) 97 255 = 97 by decide) ?_
  show Ev X k_J1_charAt_3b067 (13, [some (vr 1000207), some (vi 0)], [vi 97]) (MS I J cc ss) _
  refine ev_n (fr' := (14, [some (vr 1000207), some (vi 0)], [vi ((fI2c (Int32.ofInt 97)).toInt)])) (S' := MS I J cc ss) 1 rfl ?_
  refine ev_eqi (show (fI2c (Int32.ofInt 97)).toInt = 97 by decide) ?_
  show Ev X k_J1_charAt_3b067 (14, [some (vr 1000207), some (vi 0)], [vi 97]) (MS I J cc ss) _
  refine ev_r rfl rfl rfl ?_
  exact ⟨rfl, rfl⟩
theorem sp_ch_7_0 (X : AX) (I J : Nat → Nat → Int) (cc ss : Nat) : Ev X k_J0_charAt_5068e (0, [some (vr 1000107), some (vi 0)], []) (MS I J cc ss) (fun o T => o = .inl (some (vi 97)) ∧ T = MS I J cc ss) := by
  refine ev_n (fr' := (1, [some (vr 1000107), some (vi 0)], [vr 1000107])) (S' := MS I J cc ss) 1 rfl ?_
  refine ev_cv rfl rfl rfl ⟨Nat.le_of_ble_eq_true rfl, Nat.le_of_ble_eq_true rfl⟩ (sp_lat_7 X _ _ _ _) ?_
  show Ev X k_J0_charAt_5068e (4, [some (vr 1000107), some (vi 0)], [vi 1]) (MS I J cc ss) _
  refine ev_n (fr' := (12, [some (vr 1000107), some (vi 0)], [vi 0, vr 1000207])) (S' := MS I J cc ss) 4 rfl ?_
  refine ev_cv rfl rfl rfl ⟨Nat.le_of_ble_eq_true rfl, Nat.le_of_ble_eq_true rfl⟩ (sp_chB_7_0 X _ _ _ _) ?_
  show Ev X k_J0_charAt_5068e (15, [some (vr 1000107), some (vi 0)], [vi 97]) (MS I J cc ss) _
  refine ev_r rfl rfl rfl ?_
  exact ⟨rfl, rfl⟩
theorem sp_chB_7_1 (X : AX) (I J : Nat → Nat → Int) (cc ss : Nat) : Ev X k_J1_charAt_3b067 (0, [some (vr 1000207), some (vi 1)], []) (MS I J cc ss) (fun o T => o = .inl (some (vi 116)) ∧ T = MS I J cc ss) := by
  refine ev_n (fr' := (3, [some (vr 1000207), some (vi 1)], [vi 2, vi 1])) (S' := MS I J cc ss) 3 rfl ?_
  refine ev_cv rfl rfl rfl ⟨Nat.le_of_ble_eq_true rfl, Nat.le_of_ble_eq_true rfl⟩ (sp_chkIdx2 X _ 1 2 (by omega)) ?_
  show Ev X k_J1_charAt_3b067 (6, [some (vr 1000207), some (vi 1)], []) (MS I J cc ss) _
  refine ev_n (fr' := (13, [some (vr 1000207), some (vi 1)], [vi (opI (· &&& ·) 116 255)])) (S' := MS I J cc ss) 5 rfl ?_
  refine ev_eqi (show opI (· &&& ·) 116 255 = 116 by decide) ?_
  show Ev X k_J1_charAt_3b067 (13, [some (vr 1000207), some (vi 1)], [vi 116]) (MS I J cc ss) _
  refine ev_n (fr' := (14, [some (vr 1000207), some (vi 1)], [vi ((fI2c (Int32.ofInt 116)).toInt)])) (S' := MS I J cc ss) 1 rfl ?_
  refine ev_eqi (show (fI2c (Int32.ofInt 116)).toInt = 116 by decide) ?_
  show Ev X k_J1_charAt_3b067 (14, [some (vr 1000207), some (vi 1)], [vi 116]) (MS I J cc ss) _
  refine ev_r rfl rfl rfl ?_
  exact ⟨rfl, rfl⟩
theorem sp_ch_7_1 (X : AX) (I J : Nat → Nat → Int) (cc ss : Nat) : Ev X k_J0_charAt_5068e (0, [some (vr 1000107), some (vi 1)], []) (MS I J cc ss) (fun o T => o = .inl (some (vi 116)) ∧ T = MS I J cc ss) := by
  refine ev_n (fr' := (1, [some (vr 1000107), some (vi 1)], [vr 1000107])) (S' := MS I J cc ss) 1 rfl ?_
  refine ev_cv rfl rfl rfl ⟨Nat.le_of_ble_eq_true rfl, Nat.le_of_ble_eq_true rfl⟩ (sp_lat_7 X _ _ _ _) ?_
  show Ev X k_J0_charAt_5068e (4, [some (vr 1000107), some (vi 1)], [vi 1]) (MS I J cc ss) _
  refine ev_n (fr' := (12, [some (vr 1000107), some (vi 1)], [vi 1, vr 1000207])) (S' := MS I J cc ss) 4 rfl ?_
  refine ev_cv rfl rfl rfl ⟨Nat.le_of_ble_eq_true rfl, Nat.le_of_ble_eq_true rfl⟩ (sp_chB_7_1 X _ _ _ _) ?_
  show Ev X k_J0_charAt_5068e (15, [some (vr 1000107), some (vi 1)], [vi 116]) (MS I J cc ss) _
  refine ev_r rfl rfl rfl ?_
  exact ⟨rfl, rfl⟩
def kdF (tx : F1) (n a : Nat) : Int := if n ≤ a then 3 else if isLe (tx a) = true then 0 else if isDi (tx a) = true then 1 else 2
def enF (tx : F1) (n a : Nat) : Nat := if n ≤ a then a else if isLe (tx a) = true then leF tx n a else if isDi (tx a) = true then diF tx n a else a + 1
theorem leF_not {tx : F1} {n a : Nat} (h : n ≤ a ∨ isLe (tx a) = false) : leF tx n a = a := by
  rcases h with h | h
  · exact scF_end h
  · exact scF_not h
theorem diF_not {tx : F1} {n a : Nat} (h : n ≤ a ∨ isDi (tx a) = false) : diF tx n a = a := by
  rcases h with h | h
  · exact scF_end h
  · exact scF_not h
theorem wdF_0 {tx : F1} {n a : Nat} (h : leF tx n a = a) : wdF tx n a = 0 := by
  unfold wdF; rw [h, Nat.sub_self, if_pos (by omega)]; rfl
theorem leF_lt {tx : F1} {n a : Nat} (h : a < n) (h2 : isLe (tx a) = true) : a < leF tx n a := by
  have e : leF tx n a = leF tx n (a + 1) := scF_step h h2
  rw [e]; have := leF_ge (tx := tx) (n := n) (a + 1); omega
theorem diF_lt {tx : F1} {n a : Nat} (h : a < n) (h2 : isDi (tx a) = true) : a < diF tx n a := by
  have e : diF tx n a = diF tx n (a + 1) := scF_step h h2
  rw [e]; have := diF_ge (tx := tx) (n := n) (a + 1); omega
theorem kd_0 {tx : F1} {n a : Nat} : kdF tx n a = 0 ↔ a < n ∧ isLe (tx a) = true := by
  unfold kdF
  by_cases h : n ≤ a
  · rw [if_pos h]; exact ⟨fun q => absurd q (by decide), fun q => absurd q.1 (by omega)⟩
  · rw [if_neg h]
    by_cases h2 : isLe (tx a) = true
    · rw [if_pos h2]; exact ⟨fun _ => ⟨by omega, h2⟩, fun _ => rfl⟩
    · rw [if_neg h2]; exact ⟨fun q => by split at q <;> exact absurd q (by decide), fun q => absurd q.2 h2⟩
theorem kd_1 {tx : F1} {n a : Nat} : kdF tx n a = 1 ↔ a < n ∧ isDi (tx a) = true := by
  unfold kdF
  by_cases h : n ≤ a
  · rw [if_pos h]; exact ⟨fun q => absurd q (by decide), fun q => absurd q.1 (by omega)⟩
  · rw [if_neg h]
    by_cases h2 : isLe (tx a) = true
    · rw [if_pos h2]
      refine ⟨fun q => absurd q (by decide), fun q => ?_⟩
      have h3 := of_decide_eq_true h2
      have h4 := of_decide_eq_true q.2
      omega
    · rw [if_neg h2]
      by_cases h3 : isDi (tx a) = true
      · rw [if_pos h3]; exact ⟨fun _ => ⟨by omega, h3⟩, fun _ => rfl⟩
      · rw [if_neg h3]; exact ⟨fun q => absurd q (by decide), fun q => absurd q.2 h3⟩
theorem kd_3 {tx : F1} {n a : Nat} : kdF tx n a = 3 ↔ n ≤ a := by
  unfold kdF
  by_cases h : n ≤ a
  · rw [if_pos h]; exact ⟨fun _ => h, fun _ => rfl⟩
  · rw [if_neg h]; exact ⟨fun q => by split at q; exact absurd q (by decide); split at q <;> exact absurd q (by decide), fun q => absurd q h⟩
theorem kd_2 {tx : F1} {n a : Nat} : kdF tx n a = 2 ↔ a < n ∧ isLe (tx a) = false ∧ isDi (tx a) = false := by
  unfold kdF
  by_cases h : n ≤ a
  · rw [if_pos h]; exact ⟨fun q => absurd q (by decide), fun q => absurd q.1 (by omega)⟩
  · rw [if_neg h]
    by_cases h2 : isLe (tx a) = true
    · rw [if_pos h2]; exact ⟨fun q => absurd q (by decide), fun q => absurd (h2.symm.trans q.2.1) (by decide)⟩
    · rw [if_neg h2]
      by_cases h3 : isDi (tx a) = true
      · rw [if_pos h3]; exact ⟨fun q => absurd q (by decide), fun q => absurd (h3.symm.trans q.2.2) (by decide)⟩
      · rw [if_neg h3]; exact ⟨fun _ => ⟨by omega, Bool.not_eq_true _ ▸ h2, Bool.not_eq_true _ ▸ h3⟩, fun _ => rfl⟩
theorem en_0 {tx : F1} {n a : Nat} (h : a < n ∧ isLe (tx a) = true) : enF tx n a = leF tx n a := by unfold enF; rw [if_neg (by omega), if_pos h.2]
theorem en_1 {tx : F1} {n a : Nat} (h : a < n ∧ isDi (tx a) = true) : enF tx n a = diF tx n a := by
  unfold enF; rw [if_neg (by omega)]
  by_cases h2 : isLe (tx a) = true
  · have h3 := of_decide_eq_true h2
    have h4 := of_decide_eq_true h.2
    omega
  · rw [if_neg h2, if_pos h.2]
theorem en_3 {tx : F1} {n a : Nat} (h : n ≤ a) : enF tx n a = a := by unfold enF; rw [if_pos h]
theorem en_2 {tx : F1} {n a : Nat} (h : a < n ∧ isLe (tx a) = false ∧ isDi (tx a) = false) : enF tx n a = a + 1 := by
  unfold enF; rw [if_neg (by omega), if_neg (by rw [h.2.1]; decide), if_neg (by rw [h.2.2]; decide)]
theorem en_le {tx : F1} {n a : Nat} (h : a ≤ n) : a ≤ enF tx n a ∧ enF tx n a ≤ n := by
  unfold enF
  have h1 := leF_ge (tx := tx) (n := n) a
  have h2 := diF_ge (tx := tx) (n := n) a
  have h3 := leF_le (tx := tx) (n := n) a h
  have h4 := diF_le (tx := tx) (n := n) a h
  split
  · omega
  · split
    · exact ⟨h1, h3⟩
    · split
      · exact ⟨h2, h4⟩
      · omega
def nOK (z v : Int) : Prop := 0 ≤ z ∧ z < 1000000 ∧ (z = v ∨ (1000 ≤ z ∧ 1000 ≤ v))
/-- the reference's buffer and its token at a -/
def RB (I : F2) (tx : F1) (n : Nat) : Prop := n ≤ 900 ∧ I 135 7 = (n : Int) ∧ ∀ k, k < n → I 139 k = tx k ∧ 0 ≤ tx k ∧ tx k ≤ 255
def TK (I J : F2) (tx : F1) (n a : Nat) : Prop := a ≤ n ∧ spF tx n a = a ∧ I 135 8 = (a : Int) ∧ I 135 9 = (enF tx n a : Int) ∧ I 135 10 = kdF tx n a ∧ (kdF tx n a = 1 → nOK (J 135 14) (nuF tx a (diF tx n a - a)))
def onlyL (I I' J J' : F2) : Prop := (∀ a, a ≠ 135 → I' a = I a) ∧ (∀ f, f < 8 ∨ 12 < f → I' 135 f = I 135 f) ∧ ∀ a, a ≠ 135 → J' a = J a
theorem onlyL.refl (I J : F2) : onlyL I I J J := ⟨fun _ _ => rfl, fun _ _ => rfl, fun _ _ => rfl⟩
theorem onlyL.trans {I I' I2 J J' J2 : F2} (h : onlyL I I' J J') (h2 : onlyL I' I2 J' J2) : onlyL I I2 J J2 := ⟨fun a ha => (h2.1 a ha).trans (h.1 a ha), fun f hf => (h2.2.1 f hf).trans (h.2.1 f hf), fun a ha => (h2.2.2 a ha).trans (h.2.2 a ha)⟩
theorem RB.l {I I' J J' : F2} {tx : F1} {n : Nat} (h : RB I tx n) (e : onlyL I I' J J') : RB I' tx n := ⟨h.1, (e.2.1 7 (by omega)).trans h.2.1, fun k hk => by rw [e.1 139 (by decide)]; exact h.2.2 k hk⟩
theorem wd_0 {tx : F1} {n a : Nat} : wdF tx n a = 632645 ↔ (leF tx n a = a + 4 ∧ tx a = 115 ∧ tx (a + 1) = 105 ∧ tx (a + 2) = 122 ∧ tx (a + 3) = 101) := by
  have hge := leF_ge (tx := tx) (n := n) a
  have hall : ∀ q, a ≤ q → q < leF tx n a → isLe (tx q) = true := scF_all a
  obtain ⟨L, hL⟩ : ∃ L, leF tx n a = a + L := ⟨leF tx n a - a, by omega⟩
  unfold wdF
  rw [hL, show a + L - a = L by omega]
  rw [hL] at hall
  have d : ∀ j, j < L → 97 ≤ tx (a + j) ∧ tx (a + j) ≤ 122 := fun j hj => of_decide_eq_true (hall (a + j) (by omega) (by omega))
  by_cases h8 : L ≤ 8
  · rw [if_pos h8]
    rcases (show L = 0 ∨ L = 1 ∨ L = 2 ∨ L = 3 ∨ L = 4 ∨ L = 5 ∨ L = 6 ∨ L = 7 ∨ L = 8 by omega) with rfl | rfl | rfl | rfl | rfl | rfl | rfl | rfl | rfl
    · simp only [nmF, Nat.add_zero]
      exact ⟨fun h => by omega, fun h => by omega⟩
    · simp only [nmF, Nat.add_zero]
      have d0 := d 0 (by omega)
      rw [Nat.add_zero] at d0
      exact ⟨fun h => by omega, fun h => by omega⟩
    · simp only [nmF, Nat.add_zero]
      have d0 := d 0 (by omega)
      rw [Nat.add_zero] at d0
      have d1 := d 1 (by omega)
      exact ⟨fun h => by omega, fun h => by omega⟩
    · simp only [nmF, Nat.add_zero]
      have d0 := d 0 (by omega)
      rw [Nat.add_zero] at d0
      have d1 := d 1 (by omega)
      have d2 := d 2 (by omega)
      exact ⟨fun h => by omega, fun h => by omega⟩
    · simp only [nmF, Nat.add_zero]
      have d0 := d 0 (by omega)
      rw [Nat.add_zero] at d0
      have d1 := d 1 (by omega)
      have d2 := d 2 (by omega)
      have d3 := d 3 (by omega)
      constructor
      · intro h
        refine ⟨?_, ?_, ?_, ?_, ?_⟩ <;> first | trivial | omega
      · rintro ⟨_, p0, p1, p2, p3⟩
        omega
    · simp only [nmF, Nat.add_zero]
      have d0 := d 0 (by omega)
      rw [Nat.add_zero] at d0
      have d1 := d 1 (by omega)
      have d2 := d 2 (by omega)
      have d3 := d 3 (by omega)
      have d4 := d 4 (by omega)
      exact ⟨fun h => by omega, fun h => by omega⟩
    · simp only [nmF, Nat.add_zero]
      have d0 := d 0 (by omega)
      rw [Nat.add_zero] at d0
      have d1 := d 1 (by omega)
      have d2 := d 2 (by omega)
      have d3 := d 3 (by omega)
      have d4 := d 4 (by omega)
      have d5 := d 5 (by omega)
      exact ⟨fun h => by omega, fun h => by omega⟩
    · simp only [nmF, Nat.add_zero]
      have d0 := d 0 (by omega)
      rw [Nat.add_zero] at d0
      have d1 := d 1 (by omega)
      have d2 := d 2 (by omega)
      have d3 := d 3 (by omega)
      have d4 := d 4 (by omega)
      have d5 := d 5 (by omega)
      have d6 := d 6 (by omega)
      exact ⟨fun h => by omega, fun h => by omega⟩
    · simp only [nmF, Nat.add_zero]
      have d0 := d 0 (by omega)
      rw [Nat.add_zero] at d0
      have d1 := d 1 (by omega)
      have d2 := d 2 (by omega)
      have d3 := d 3 (by omega)
      have d4 := d 4 (by omega)
      have d5 := d 5 (by omega)
      have d6 := d 6 (by omega)
      have d7 := d 7 (by omega)
      exact ⟨fun h => by omega, fun h => by omega⟩
  · rw [if_neg h8]; exact ⟨fun h => absurd h (by decide), fun h => by omega⟩
theorem wd_1 {tx : F1} {n a : Nat} : wdF tx n a = 6050369 ↔ (leF tx n a = a + 5 ∧ tx a = 101 ∧ tx (a + 1) = 120 ∧ tx (a + 2) = 116 ∧ tx (a + 3) = 114 ∧ tx (a + 4) = 97) := by
  have hge := leF_ge (tx := tx) (n := n) a
  have hall : ∀ q, a ≤ q → q < leF tx n a → isLe (tx q) = true := scF_all a
  obtain ⟨L, hL⟩ : ∃ L, leF tx n a = a + L := ⟨leF tx n a - a, by omega⟩
  unfold wdF
  rw [hL, show a + L - a = L by omega]
  rw [hL] at hall
  have d : ∀ j, j < L → 97 ≤ tx (a + j) ∧ tx (a + j) ≤ 122 := fun j hj => of_decide_eq_true (hall (a + j) (by omega) (by omega))
  by_cases h8 : L ≤ 8
  · rw [if_pos h8]
    rcases (show L = 0 ∨ L = 1 ∨ L = 2 ∨ L = 3 ∨ L = 4 ∨ L = 5 ∨ L = 6 ∨ L = 7 ∨ L = 8 by omega) with rfl | rfl | rfl | rfl | rfl | rfl | rfl | rfl | rfl
    · simp only [nmF, Nat.add_zero]
      exact ⟨fun h => by omega, fun h => by omega⟩
    · simp only [nmF, Nat.add_zero]
      have d0 := d 0 (by omega)
      rw [Nat.add_zero] at d0
      exact ⟨fun h => by omega, fun h => by omega⟩
    · simp only [nmF, Nat.add_zero]
      have d0 := d 0 (by omega)
      rw [Nat.add_zero] at d0
      have d1 := d 1 (by omega)
      exact ⟨fun h => by omega, fun h => by omega⟩
    · simp only [nmF, Nat.add_zero]
      have d0 := d 0 (by omega)
      rw [Nat.add_zero] at d0
      have d1 := d 1 (by omega)
      have d2 := d 2 (by omega)
      exact ⟨fun h => by omega, fun h => by omega⟩
    · simp only [nmF, Nat.add_zero]
      have d0 := d 0 (by omega)
      rw [Nat.add_zero] at d0
      have d1 := d 1 (by omega)
      have d2 := d 2 (by omega)
      have d3 := d 3 (by omega)
      exact ⟨fun h => by omega, fun h => by omega⟩
    · simp only [nmF, Nat.add_zero]
      have d0 := d 0 (by omega)
      rw [Nat.add_zero] at d0
      have d1 := d 1 (by omega)
      have d2 := d 2 (by omega)
      have d3 := d 3 (by omega)
      have d4 := d 4 (by omega)
      constructor
      · intro h
        refine ⟨?_, ?_, ?_, ?_, ?_, ?_⟩ <;> first | trivial | omega
      · rintro ⟨_, p0, p1, p2, p3, p4⟩
        omega
    · simp only [nmF, Nat.add_zero]
      have d0 := d 0 (by omega)
      rw [Nat.add_zero] at d0
      have d1 := d 1 (by omega)
      have d2 := d 2 (by omega)
      have d3 := d 3 (by omega)
      have d4 := d 4 (by omega)
      have d5 := d 5 (by omega)
      exact ⟨fun h => by omega, fun h => by omega⟩
    · simp only [nmF, Nat.add_zero]
      have d0 := d 0 (by omega)
      rw [Nat.add_zero] at d0
      have d1 := d 1 (by omega)
      have d2 := d 2 (by omega)
      have d3 := d 3 (by omega)
      have d4 := d 4 (by omega)
      have d5 := d 5 (by omega)
      have d6 := d 6 (by omega)
      exact ⟨fun h => by omega, fun h => by omega⟩
    · simp only [nmF, Nat.add_zero]
      have d0 := d 0 (by omega)
      rw [Nat.add_zero] at d0
      have d1 := d 1 (by omega)
      have d2 := d 2 (by omega)
      have d3 := d 3 (by omega)
      have d4 := d 4 (by omega)
      have d5 := d 5 (by omega)
      have d6 := d 6 (by omega)
      have d7 := d 7 (by omega)
      exact ⟨fun h => by omega, fun h => by omega⟩
  · rw [if_neg h8]; exact ⟨fun h => absurd h (by decide), fun h => by omega⟩
theorem wd_2 {tx : F1} {n a : Nat} : wdF tx n a = 525908 ↔ (leF tx n a = a + 4 ∧ tx a = 112 ∧ tx (a + 1) = 97 ∧ tx (a + 2) = 114 ∧ tx (a + 3) = 116) := by
  have hge := leF_ge (tx := tx) (n := n) a
  have hall : ∀ q, a ≤ q → q < leF tx n a → isLe (tx q) = true := scF_all a
  obtain ⟨L, hL⟩ : ∃ L, leF tx n a = a + L := ⟨leF tx n a - a, by omega⟩
  unfold wdF
  rw [hL, show a + L - a = L by omega]
  rw [hL] at hall
  have d : ∀ j, j < L → 97 ≤ tx (a + j) ∧ tx (a + j) ≤ 122 := fun j hj => of_decide_eq_true (hall (a + j) (by omega) (by omega))
  by_cases h8 : L ≤ 8
  · rw [if_pos h8]
    rcases (show L = 0 ∨ L = 1 ∨ L = 2 ∨ L = 3 ∨ L = 4 ∨ L = 5 ∨ L = 6 ∨ L = 7 ∨ L = 8 by omega) with rfl | rfl | rfl | rfl | rfl | rfl | rfl | rfl | rfl
    · simp only [nmF, Nat.add_zero]
      exact ⟨fun h => by omega, fun h => by omega⟩
    · simp only [nmF, Nat.add_zero]
      have d0 := d 0 (by omega)
      rw [Nat.add_zero] at d0
      exact ⟨fun h => by omega, fun h => by omega⟩
    · simp only [nmF, Nat.add_zero]
      have d0 := d 0 (by omega)
      rw [Nat.add_zero] at d0
      have d1 := d 1 (by omega)
      exact ⟨fun h => by omega, fun h => by omega⟩
    · simp only [nmF, Nat.add_zero]
      have d0 := d 0 (by omega)
      rw [Nat.add_zero] at d0
      have d1 := d 1 (by omega)
      have d2 := d 2 (by omega)
      exact ⟨fun h => by omega, fun h => by omega⟩
    · simp only [nmF, Nat.add_zero]
      have d0 := d 0 (by omega)
      rw [Nat.add_zero] at d0
      have d1 := d 1 (by omega)
      have d2 := d 2 (by omega)
      have d3 := d 3 (by omega)
      constructor
      · intro h
        refine ⟨?_, ?_, ?_, ?_, ?_⟩ <;> first | trivial | omega
      · rintro ⟨_, p0, p1, p2, p3⟩
        omega
    · simp only [nmF, Nat.add_zero]
      have d0 := d 0 (by omega)
      rw [Nat.add_zero] at d0
      have d1 := d 1 (by omega)
      have d2 := d 2 (by omega)
      have d3 := d 3 (by omega)
      have d4 := d 4 (by omega)
      exact ⟨fun h => by omega, fun h => by omega⟩
    · simp only [nmF, Nat.add_zero]
      have d0 := d 0 (by omega)
      rw [Nat.add_zero] at d0
      have d1 := d 1 (by omega)
      have d2 := d 2 (by omega)
      have d3 := d 3 (by omega)
      have d4 := d 4 (by omega)
      have d5 := d 5 (by omega)
      exact ⟨fun h => by omega, fun h => by omega⟩
    · simp only [nmF, Nat.add_zero]
      have d0 := d 0 (by omega)
      rw [Nat.add_zero] at d0
      have d1 := d 1 (by omega)
      have d2 := d 2 (by omega)
      have d3 := d 3 (by omega)
      have d4 := d 4 (by omega)
      have d5 := d 5 (by omega)
      have d6 := d 6 (by omega)
      exact ⟨fun h => by omega, fun h => by omega⟩
    · simp only [nmF, Nat.add_zero]
      have d0 := d 0 (by omega)
      rw [Nat.add_zero] at d0
      have d1 := d 1 (by omega)
      have d2 := d 2 (by omega)
      have d3 := d 3 (by omega)
      have d4 := d 4 (by omega)
      have d5 := d 5 (by omega)
      have d6 := d 6 (by omega)
      have d7 := d 7 (by omega)
      exact ⟨fun h => by omega, fun h => by omega⟩
  · rw [if_neg h8]; exact ⟨fun h => absurd h (by decide), fun h => by omega⟩
theorem wd_3 {tx : F1} {n a : Nat} : wdF tx n a = 2098 ↔ (leF tx n a = a + 3 ∧ tx a = 98 ∧ tx (a + 1) = 97 ∧ tx (a + 2) = 114) := by
  have hge := leF_ge (tx := tx) (n := n) a
  have hall : ∀ q, a ≤ q → q < leF tx n a → isLe (tx q) = true := scF_all a
  obtain ⟨L, hL⟩ : ∃ L, leF tx n a = a + L := ⟨leF tx n a - a, by omega⟩
  unfold wdF
  rw [hL, show a + L - a = L by omega]
  rw [hL] at hall
  have d : ∀ j, j < L → 97 ≤ tx (a + j) ∧ tx (a + j) ≤ 122 := fun j hj => of_decide_eq_true (hall (a + j) (by omega) (by omega))
  by_cases h8 : L ≤ 8
  · rw [if_pos h8]
    rcases (show L = 0 ∨ L = 1 ∨ L = 2 ∨ L = 3 ∨ L = 4 ∨ L = 5 ∨ L = 6 ∨ L = 7 ∨ L = 8 by omega) with rfl | rfl | rfl | rfl | rfl | rfl | rfl | rfl | rfl
    · simp only [nmF, Nat.add_zero]
      exact ⟨fun h => by omega, fun h => by omega⟩
    · simp only [nmF, Nat.add_zero]
      have d0 := d 0 (by omega)
      rw [Nat.add_zero] at d0
      exact ⟨fun h => by omega, fun h => by omega⟩
    · simp only [nmF, Nat.add_zero]
      have d0 := d 0 (by omega)
      rw [Nat.add_zero] at d0
      have d1 := d 1 (by omega)
      exact ⟨fun h => by omega, fun h => by omega⟩
    · simp only [nmF, Nat.add_zero]
      have d0 := d 0 (by omega)
      rw [Nat.add_zero] at d0
      have d1 := d 1 (by omega)
      have d2 := d 2 (by omega)
      constructor
      · intro h
        refine ⟨?_, ?_, ?_, ?_⟩ <;> first | trivial | omega
      · rintro ⟨_, p0, p1, p2⟩
        omega
    · simp only [nmF, Nat.add_zero]
      have d0 := d 0 (by omega)
      rw [Nat.add_zero] at d0
      have d1 := d 1 (by omega)
      have d2 := d 2 (by omega)
      have d3 := d 3 (by omega)
      exact ⟨fun h => by omega, fun h => by omega⟩
    · simp only [nmF, Nat.add_zero]
      have d0 := d 0 (by omega)
      rw [Nat.add_zero] at d0
      have d1 := d 1 (by omega)
      have d2 := d 2 (by omega)
      have d3 := d 3 (by omega)
      have d4 := d 4 (by omega)
      exact ⟨fun h => by omega, fun h => by omega⟩
    · simp only [nmF, Nat.add_zero]
      have d0 := d 0 (by omega)
      rw [Nat.add_zero] at d0
      have d1 := d 1 (by omega)
      have d2 := d 2 (by omega)
      have d3 := d 3 (by omega)
      have d4 := d 4 (by omega)
      have d5 := d 5 (by omega)
      exact ⟨fun h => by omega, fun h => by omega⟩
    · simp only [nmF, Nat.add_zero]
      have d0 := d 0 (by omega)
      rw [Nat.add_zero] at d0
      have d1 := d 1 (by omega)
      have d2 := d 2 (by omega)
      have d3 := d 3 (by omega)
      have d4 := d 4 (by omega)
      have d5 := d 5 (by omega)
      have d6 := d 6 (by omega)
      exact ⟨fun h => by omega, fun h => by omega⟩
    · simp only [nmF, Nat.add_zero]
      have d0 := d 0 (by omega)
      rw [Nat.add_zero] at d0
      have d1 := d 1 (by omega)
      have d2 := d 2 (by omega)
      have d3 := d 3 (by omega)
      have d4 := d 4 (by omega)
      have d5 := d 5 (by omega)
      have d6 := d 6 (by omega)
      have d7 := d 7 (by omega)
      exact ⟨fun h => by omega, fun h => by omega⟩
  · rw [if_neg h8]; exact ⟨fun h => absurd h (by decide), fun h => by omega⟩
theorem wd_4 {tx : F1} {n a : Nat} : wdF tx n a = 2552 ↔ (leF tx n a = a + 3 ∧ tx a = 98 ∧ tx (a + 1) = 111 ∧ tx (a + 2) = 120) := by
  have hge := leF_ge (tx := tx) (n := n) a
  have hall : ∀ q, a ≤ q → q < leF tx n a → isLe (tx q) = true := scF_all a
  obtain ⟨L, hL⟩ : ∃ L, leF tx n a = a + L := ⟨leF tx n a - a, by omega⟩
  unfold wdF
  rw [hL, show a + L - a = L by omega]
  rw [hL] at hall
  have d : ∀ j, j < L → 97 ≤ tx (a + j) ∧ tx (a + j) ≤ 122 := fun j hj => of_decide_eq_true (hall (a + j) (by omega) (by omega))
  by_cases h8 : L ≤ 8
  · rw [if_pos h8]
    rcases (show L = 0 ∨ L = 1 ∨ L = 2 ∨ L = 3 ∨ L = 4 ∨ L = 5 ∨ L = 6 ∨ L = 7 ∨ L = 8 by omega) with rfl | rfl | rfl | rfl | rfl | rfl | rfl | rfl | rfl
    · simp only [nmF, Nat.add_zero]
      exact ⟨fun h => by omega, fun h => by omega⟩
    · simp only [nmF, Nat.add_zero]
      have d0 := d 0 (by omega)
      rw [Nat.add_zero] at d0
      exact ⟨fun h => by omega, fun h => by omega⟩
    · simp only [nmF, Nat.add_zero]
      have d0 := d 0 (by omega)
      rw [Nat.add_zero] at d0
      have d1 := d 1 (by omega)
      exact ⟨fun h => by omega, fun h => by omega⟩
    · simp only [nmF, Nat.add_zero]
      have d0 := d 0 (by omega)
      rw [Nat.add_zero] at d0
      have d1 := d 1 (by omega)
      have d2 := d 2 (by omega)
      constructor
      · intro h
        refine ⟨?_, ?_, ?_, ?_⟩ <;> first | trivial | omega
      · rintro ⟨_, p0, p1, p2⟩
        omega
    · simp only [nmF, Nat.add_zero]
      have d0 := d 0 (by omega)
      rw [Nat.add_zero] at d0
      have d1 := d 1 (by omega)
      have d2 := d 2 (by omega)
      have d3 := d 3 (by omega)
      exact ⟨fun h => by omega, fun h => by omega⟩
    · simp only [nmF, Nat.add_zero]
      have d0 := d 0 (by omega)
      rw [Nat.add_zero] at d0
      have d1 := d 1 (by omega)
      have d2 := d 2 (by omega)
      have d3 := d 3 (by omega)
      have d4 := d 4 (by omega)
      exact ⟨fun h => by omega, fun h => by omega⟩
    · simp only [nmF, Nat.add_zero]
      have d0 := d 0 (by omega)
      rw [Nat.add_zero] at d0
      have d1 := d 1 (by omega)
      have d2 := d 2 (by omega)
      have d3 := d 3 (by omega)
      have d4 := d 4 (by omega)
      have d5 := d 5 (by omega)
      exact ⟨fun h => by omega, fun h => by omega⟩
    · simp only [nmF, Nat.add_zero]
      have d0 := d 0 (by omega)
      rw [Nat.add_zero] at d0
      have d1 := d 1 (by omega)
      have d2 := d 2 (by omega)
      have d3 := d 3 (by omega)
      have d4 := d 4 (by omega)
      have d5 := d 5 (by omega)
      have d6 := d 6 (by omega)
      exact ⟨fun h => by omega, fun h => by omega⟩
    · simp only [nmF, Nat.add_zero]
      have d0 := d 0 (by omega)
      rw [Nat.add_zero] at d0
      have d1 := d 1 (by omega)
      have d2 := d 2 (by omega)
      have d3 := d 3 (by omega)
      have d4 := d 4 (by omega)
      have d5 := d 5 (by omega)
      have d6 := d 6 (by omega)
      have d7 := d 7 (by omega)
      exact ⟨fun h => by omega, fun h => by omega⟩
  · rw [if_neg h8]; exact ⟨fun h => absurd h (by decide), fun h => by omega⟩
theorem wd_5 {tx : F1} {n a : Nat} : wdF tx n a = 402885 ↔ (leF tx n a = a + 4 ∧ tx a = 108 ∧ tx (a + 1) = 105 ∧ tx (a + 2) = 110 ∧ tx (a + 3) = 101) := by
  have hge := leF_ge (tx := tx) (n := n) a
  have hall : ∀ q, a ≤ q → q < leF tx n a → isLe (tx q) = true := scF_all a
  obtain ⟨L, hL⟩ : ∃ L, leF tx n a = a + L := ⟨leF tx n a - a, by omega⟩
  unfold wdF
  rw [hL, show a + L - a = L by omega]
  rw [hL] at hall
  have d : ∀ j, j < L → 97 ≤ tx (a + j) ∧ tx (a + j) ≤ 122 := fun j hj => of_decide_eq_true (hall (a + j) (by omega) (by omega))
  by_cases h8 : L ≤ 8
  · rw [if_pos h8]
    rcases (show L = 0 ∨ L = 1 ∨ L = 2 ∨ L = 3 ∨ L = 4 ∨ L = 5 ∨ L = 6 ∨ L = 7 ∨ L = 8 by omega) with rfl | rfl | rfl | rfl | rfl | rfl | rfl | rfl | rfl
    · simp only [nmF, Nat.add_zero]
      exact ⟨fun h => by omega, fun h => by omega⟩
    · simp only [nmF, Nat.add_zero]
      have d0 := d 0 (by omega)
      rw [Nat.add_zero] at d0
      exact ⟨fun h => by omega, fun h => by omega⟩
    · simp only [nmF, Nat.add_zero]
      have d0 := d 0 (by omega)
      rw [Nat.add_zero] at d0
      have d1 := d 1 (by omega)
      exact ⟨fun h => by omega, fun h => by omega⟩
    · simp only [nmF, Nat.add_zero]
      have d0 := d 0 (by omega)
      rw [Nat.add_zero] at d0
      have d1 := d 1 (by omega)
      have d2 := d 2 (by omega)
      exact ⟨fun h => by omega, fun h => by omega⟩
    · simp only [nmF, Nat.add_zero]
      have d0 := d 0 (by omega)
      rw [Nat.add_zero] at d0
      have d1 := d 1 (by omega)
      have d2 := d 2 (by omega)
      have d3 := d 3 (by omega)
      constructor
      · intro h
        refine ⟨?_, ?_, ?_, ?_, ?_⟩ <;> first | trivial | omega
      · rintro ⟨_, p0, p1, p2, p3⟩
        omega
    · simp only [nmF, Nat.add_zero]
      have d0 := d 0 (by omega)
      rw [Nat.add_zero] at d0
      have d1 := d 1 (by omega)
      have d2 := d 2 (by omega)
      have d3 := d 3 (by omega)
      have d4 := d 4 (by omega)
      exact ⟨fun h => by omega, fun h => by omega⟩
    · simp only [nmF, Nat.add_zero]
      have d0 := d 0 (by omega)
      rw [Nat.add_zero] at d0
      have d1 := d 1 (by omega)
      have d2 := d 2 (by omega)
      have d3 := d 3 (by omega)
      have d4 := d 4 (by omega)
      have d5 := d 5 (by omega)
      exact ⟨fun h => by omega, fun h => by omega⟩
    · simp only [nmF, Nat.add_zero]
      have d0 := d 0 (by omega)
      rw [Nat.add_zero] at d0
      have d1 := d 1 (by omega)
      have d2 := d 2 (by omega)
      have d3 := d 3 (by omega)
      have d4 := d 4 (by omega)
      have d5 := d 5 (by omega)
      have d6 := d 6 (by omega)
      exact ⟨fun h => by omega, fun h => by omega⟩
    · simp only [nmF, Nat.add_zero]
      have d0 := d 0 (by omega)
      rw [Nat.add_zero] at d0
      have d1 := d 1 (by omega)
      have d2 := d 2 (by omega)
      have d3 := d 3 (by omega)
      have d4 := d 4 (by omega)
      have d5 := d 5 (by omega)
      have d6 := d 6 (by omega)
      have d7 := d 7 (by omega)
      exact ⟨fun h => by omega, fun h => by omega⟩
  · rw [if_neg h8]; exact ⟨fun h => absurd h (by decide), fun h => by omega⟩
theorem wd_6 {tx : F1} {n a : Nat} : wdF tx n a = 298478 ↔ (leF tx n a = a + 4 ∧ tx a = 105 ∧ tx (a + 1) = 99 ∧ tx (a + 2) = 111 ∧ tx (a + 3) = 110) := by
  have hge := leF_ge (tx := tx) (n := n) a
  have hall : ∀ q, a ≤ q → q < leF tx n a → isLe (tx q) = true := scF_all a
  obtain ⟨L, hL⟩ : ∃ L, leF tx n a = a + L := ⟨leF tx n a - a, by omega⟩
  unfold wdF
  rw [hL, show a + L - a = L by omega]
  rw [hL] at hall
  have d : ∀ j, j < L → 97 ≤ tx (a + j) ∧ tx (a + j) ≤ 122 := fun j hj => of_decide_eq_true (hall (a + j) (by omega) (by omega))
  by_cases h8 : L ≤ 8
  · rw [if_pos h8]
    rcases (show L = 0 ∨ L = 1 ∨ L = 2 ∨ L = 3 ∨ L = 4 ∨ L = 5 ∨ L = 6 ∨ L = 7 ∨ L = 8 by omega) with rfl | rfl | rfl | rfl | rfl | rfl | rfl | rfl | rfl
    · simp only [nmF, Nat.add_zero]
      exact ⟨fun h => by omega, fun h => by omega⟩
    · simp only [nmF, Nat.add_zero]
      have d0 := d 0 (by omega)
      rw [Nat.add_zero] at d0
      exact ⟨fun h => by omega, fun h => by omega⟩
    · simp only [nmF, Nat.add_zero]
      have d0 := d 0 (by omega)
      rw [Nat.add_zero] at d0
      have d1 := d 1 (by omega)
      exact ⟨fun h => by omega, fun h => by omega⟩
    · simp only [nmF, Nat.add_zero]
      have d0 := d 0 (by omega)
      rw [Nat.add_zero] at d0
      have d1 := d 1 (by omega)
      have d2 := d 2 (by omega)
      exact ⟨fun h => by omega, fun h => by omega⟩
    · simp only [nmF, Nat.add_zero]
      have d0 := d 0 (by omega)
      rw [Nat.add_zero] at d0
      have d1 := d 1 (by omega)
      have d2 := d 2 (by omega)
      have d3 := d 3 (by omega)
      constructor
      · intro h
        refine ⟨?_, ?_, ?_, ?_, ?_⟩ <;> first | trivial | omega
      · rintro ⟨_, p0, p1, p2, p3⟩
        omega
    · simp only [nmF, Nat.add_zero]
      have d0 := d 0 (by omega)
      rw [Nat.add_zero] at d0
      have d1 := d 1 (by omega)
      have d2 := d 2 (by omega)
      have d3 := d 3 (by omega)
      have d4 := d 4 (by omega)
      exact ⟨fun h => by omega, fun h => by omega⟩
    · simp only [nmF, Nat.add_zero]
      have d0 := d 0 (by omega)
      rw [Nat.add_zero] at d0
      have d1 := d 1 (by omega)
      have d2 := d 2 (by omega)
      have d3 := d 3 (by omega)
      have d4 := d 4 (by omega)
      have d5 := d 5 (by omega)
      exact ⟨fun h => by omega, fun h => by omega⟩
    · simp only [nmF, Nat.add_zero]
      have d0 := d 0 (by omega)
      rw [Nat.add_zero] at d0
      have d1 := d 1 (by omega)
      have d2 := d 2 (by omega)
      have d3 := d 3 (by omega)
      have d4 := d 4 (by omega)
      have d5 := d 5 (by omega)
      have d6 := d 6 (by omega)
      exact ⟨fun h => by omega, fun h => by omega⟩
    · simp only [nmF, Nat.add_zero]
      have d0 := d 0 (by omega)
      rw [Nat.add_zero] at d0
      have d1 := d 1 (by omega)
      have d2 := d 2 (by omega)
      have d3 := d 3 (by omega)
      have d4 := d 4 (by omega)
      have d5 := d 5 (by omega)
      have d6 := d 6 (by omega)
      have d7 := d 7 (by omega)
      exact ⟨fun h => by omega, fun h => by omega⟩
  · rw [if_neg h8]; exact ⟨fun h => absurd h (by decide), fun h => by omega⟩
theorem wd_7 {tx : F1} {n a : Nat} : wdF tx n a = 52 ↔ (leF tx n a = a + 2 ∧ tx a = 97 ∧ tx (a + 1) = 116) := by
  have hge := leF_ge (tx := tx) (n := n) a
  have hall : ∀ q, a ≤ q → q < leF tx n a → isLe (tx q) = true := scF_all a
  obtain ⟨L, hL⟩ : ∃ L, leF tx n a = a + L := ⟨leF tx n a - a, by omega⟩
  unfold wdF
  rw [hL, show a + L - a = L by omega]
  rw [hL] at hall
  have d : ∀ j, j < L → 97 ≤ tx (a + j) ∧ tx (a + j) ≤ 122 := fun j hj => of_decide_eq_true (hall (a + j) (by omega) (by omega))
  by_cases h8 : L ≤ 8
  · rw [if_pos h8]
    rcases (show L = 0 ∨ L = 1 ∨ L = 2 ∨ L = 3 ∨ L = 4 ∨ L = 5 ∨ L = 6 ∨ L = 7 ∨ L = 8 by omega) with rfl | rfl | rfl | rfl | rfl | rfl | rfl | rfl | rfl
    · simp only [nmF, Nat.add_zero]
      exact ⟨fun h => by omega, fun h => by omega⟩
    · simp only [nmF, Nat.add_zero]
      have d0 := d 0 (by omega)
      rw [Nat.add_zero] at d0
      exact ⟨fun h => by omega, fun h => by omega⟩
    · simp only [nmF, Nat.add_zero]
      have d0 := d 0 (by omega)
      rw [Nat.add_zero] at d0
      have d1 := d 1 (by omega)
      constructor
      · intro h
        refine ⟨?_, ?_, ?_⟩ <;> first | trivial | omega
      · rintro ⟨_, p0, p1⟩
        omega
    · simp only [nmF, Nat.add_zero]
      have d0 := d 0 (by omega)
      rw [Nat.add_zero] at d0
      have d1 := d 1 (by omega)
      have d2 := d 2 (by omega)
      exact ⟨fun h => by omega, fun h => by omega⟩
    · simp only [nmF, Nat.add_zero]
      have d0 := d 0 (by omega)
      rw [Nat.add_zero] at d0
      have d1 := d 1 (by omega)
      have d2 := d 2 (by omega)
      have d3 := d 3 (by omega)
      exact ⟨fun h => by omega, fun h => by omega⟩
    · simp only [nmF, Nat.add_zero]
      have d0 := d 0 (by omega)
      rw [Nat.add_zero] at d0
      have d1 := d 1 (by omega)
      have d2 := d 2 (by omega)
      have d3 := d 3 (by omega)
      have d4 := d 4 (by omega)
      exact ⟨fun h => by omega, fun h => by omega⟩
    · simp only [nmF, Nat.add_zero]
      have d0 := d 0 (by omega)
      rw [Nat.add_zero] at d0
      have d1 := d 1 (by omega)
      have d2 := d 2 (by omega)
      have d3 := d 3 (by omega)
      have d4 := d 4 (by omega)
      have d5 := d 5 (by omega)
      exact ⟨fun h => by omega, fun h => by omega⟩
    · simp only [nmF, Nat.add_zero]
      have d0 := d 0 (by omega)
      rw [Nat.add_zero] at d0
      have d1 := d 1 (by omega)
      have d2 := d 2 (by omega)
      have d3 := d 3 (by omega)
      have d4 := d 4 (by omega)
      have d5 := d 5 (by omega)
      have d6 := d 6 (by omega)
      exact ⟨fun h => by omega, fun h => by omega⟩
    · simp only [nmF, Nat.add_zero]
      have d0 := d 0 (by omega)
      rw [Nat.add_zero] at d0
      have d1 := d 1 (by omega)
      have d2 := d 2 (by omega)
      have d3 := d 3 (by omega)
      have d4 := d 4 (by omega)
      have d5 := d 5 (by omega)
      have d6 := d 6 (by omega)
      have d7 := d 7 (by omega)
      exact ⟨fun h => by omega, fun h => by omega⟩
  · rw [if_neg h8]; exact ⟨fun h => absurd h (by decide), fun h => by omega⟩
theorem sp_isWord_0 (X : AX) (I J : Nat → Nat → Int) (cc ss : Nat) {tx : F1} {n : Nat} (hR : RB I tx n) (a : Nat) (hK : TK I J tx n a) (hw0 : I 135 11 = 0) : Ev X k_X9_isWord (0, [some (vr 135), some (vr 1000100), none], []) (MS I J cc ss) (fun o T => o = .inl (some (vi (if wdF tx n a = 632645 then 1 else 0))) ∧ T = MS I J cc ss) := by
  obtain ⟨ha, hsa, h8, h9, h10, hno⟩ := hK
  obtain ⟨h900, h7, hbf⟩ := hR
  have hen2 := en_le (tx := tx) ha
  refine ev_n (fr' := (4, [some (vr 135), some (vr 1000100), none], [vi (I 135 11)])) (S' := MS I J cc ss) 2 rfl ?_
  refine ev_eqi (hw0) ?_
  show Ev X k_X9_isWord (4, [some (vr 135), some (vr 1000100), none], [vi 0]) (MS I J cc ss) _
  refine ev_n (fr' := (11, [some (vr 135), some (vr 1000100), none], [vi (I 135 10)])) (S' := MS I J cc ss) 3 rfl ?_
  refine ev_eqi (h10) ?_
  show Ev X k_X9_isWord (11, [some (vr 135), some (vr 1000100), none], [vi (kdF tx n a)]) (MS I J cc ss) _
  refine ev_if (c := .ne) (off := 19) rfl (by decide) (fun (g1 : (kdF tx n a) ≠ 0) => ?_) (fun (g1 : ¬ ((kdF tx n a) ≠ 0)) => ?_)
  · show Ev X k_X9_isWord (30, [some (vr 135), some (vr 1000100), none], []) (MS I J cc ss) _
    refine ev_n (fr' := (31, [some (vr 135), some (vr 1000100), none], [vi 0])) (S' := MS I J cc ss) 1 rfl ?_
    refine ev_r rfl rfl rfl ?_
    exact ⟨congrArg (fun z => Sum.inl (some (vi z))) (if_neg (fun q => g1 (kd_0.mpr (by
      have q2 := wd_0.mp q
      rcases Nat.lt_or_ge a n with h | h
      · cases hb : isLe (tx a)
        · have := leF_not (n := n) (Or.inr hb); omega
        · exact ⟨h, rfl⟩
      · have := leF_not (tx := tx) (n := n) (Or.inl h); omega)))).symm, rfl⟩
  · show Ev X k_X9_isWord (14, [some (vr 135), some (vr 1000100), none], []) (MS I J cc ss) _
    refine ev_n (fr' := (18, [some (vr 135), some (vr 1000100), none], [vi (I 135 9)])) (S' := MS I J cc ss) 2 rfl ?_
    refine ev_eqi (h9) ?_
    show Ev X k_X9_isWord (18, [some (vr 135), some (vr 1000100), none], [vi ((enF tx n a) : Int)]) (MS I J cc ss) _
    refine ev_n (fr' := (22, [some (vr 135), some (vr 1000100), none], [vi (I 135 8), vi ((enF tx n a) : Int)])) (S' := MS I J cc ss) 2 rfl ?_
    refine ev_eqi (h8) ?_
    show Ev X k_X9_isWord (22, [some (vr 135), some (vr 1000100), none], [vi (a : Int), vi ((enF tx n a) : Int)]) (MS I J cc ss) _
    refine ev_sub (z := ((enF tx n a) : Int) - (a : Int)) rfl (by omega) (by omega) (by omega) ?_
    show Ev X k_X9_isWord (23, [some (vr 135), some (vr 1000100), none], [vi (((enF tx n a) : Int) - (a : Int))]) (MS I J cc ss) _
    refine ev_n (fr' := (24, [some (vr 135), some (vr 1000100), none], [vr 1000100, vi (((enF tx n a) : Int) - (a : Int))])) (S' := MS I J cc ss) 1 rfl ?_
    refine ev_cv rfl rfl rfl ⟨Nat.le_of_ble_eq_true rfl, Nat.le_of_ble_eq_true rfl⟩ (sp_len_0 X _ _ _ _) ?_
    show Ev X k_X9_isWord (27, [some (vr 135), some (vr 1000100), none], [vi 4, vi (((enF tx n a) : Int) - (a : Int))]) (MS I J cc ss) _
    refine ev_ic (c := .eq) (off := 5) rfl (by decide) (fun (g2 : ((enF tx n a) : Int) - (a : Int) = 4) => ?_) (fun (g2 : ¬ (((enF tx n a) : Int) - (a : Int) = 4)) => ?_)
    · show Ev X k_X9_isWord (32, [some (vr 135), some (vr 1000100), none], []) (MS I J cc ss) _
      have hlt : a + 4 ≤ n := by
        have hk0 := kd_0.mp (Decidable.of_not_not g1)
        have hen := en_0 hk0
        have := leF_le (tx := tx) (n := n) a ha
        omega
      refine ev_n (fr' := (36, [some (vr 135), some (vr 1000100), some (vi 0)], [vr 1000100, vi 0])) (S' := MS I J cc ss) 4 rfl ?_
      refine ev_cv rfl rfl rfl ⟨Nat.le_of_ble_eq_true rfl, Nat.le_of_ble_eq_true rfl⟩ (sp_len_0 X _ _ _ _) ?_
      show Ev X k_X9_isWord (39, [some (vr 135), some (vr 1000100), some (vi 0)], [vi 4, vi 0]) (MS I J cc ss) _
      refine ev_n (fr' := (50, [some (vr 135), some (vr 1000100), some (vi 0)], [vi (I 135 8), vr 139])) (S' := MS I J cc ss) 5 rfl ?_
      refine ev_eqi (h8) ?_
      show Ev X k_X9_isWord (50, [some (vr 135), some (vr 1000100), some (vi 0)], [vi (a : Int), vr 139]) (MS I J cc ss) _
      refine ev_n (fr' := (51, [some (vr 135), some (vr 1000100), some (vi 0)], [vi 0, vi (a : Int), vr 139])) (S' := MS I J cc ss) 1 rfl ?_
      refine ev_add (z := (a : Int)) rfl (by omega) (by omega) (by omega) ?_
      show Ev X k_X9_isWord (52, [some (vr 135), some (vr 1000100), some (vi 0)], [vi (a : Int), vr 139]) (MS I J cc ss) _
      refine ev_iaN (j := a) (z := (tx a)) rfl rfl (by omega) (by omega) ((hbf _ (by omega)).1) ?_
      show Ev X k_X9_isWord (53, [some (vr 135), some (vr 1000100), some (vi 0)], [vi (tx a)]) (MS I J cc ss) _
      refine ev_n (fr' := (55, [some (vr 135), some (vr 1000100), some (vi 0)], [vi 0, vr 1000100, vi (tx a)])) (S' := MS I J cc ss) 2 rfl ?_
      refine ev_cv rfl rfl rfl ⟨Nat.le_of_ble_eq_true rfl, Nat.le_of_ble_eq_true rfl⟩ (sp_ch_0_0 X _ _ _ _) ?_
      show Ev X k_X9_isWord (58, [some (vr 135), some (vr 1000100), some (vi 0)], [vi 115, vi (tx a)]) (MS I J cc ss) _
      refine ev_ic (c := .eq) (off := 5) rfl (by decide) (fun (g3 : (tx a) = 115) => ?_) (fun (g3 : ¬ ((tx a) = 115)) => ?_)
      · show Ev X k_X9_isWord (63, [some (vr 135), some (vr 1000100), some (vi 0)], []) (MS I J cc ss) _
        refine ev_n (fr' := (36, [some (vr 135), some (vr 1000100), some (vi 1)], [vr 1000100, vi 1])) (S' := MS I J cc ss) 4 rfl ?_
        refine ev_cv rfl rfl rfl ⟨Nat.le_of_ble_eq_true rfl, Nat.le_of_ble_eq_true rfl⟩ (sp_len_0 X _ _ _ _) ?_
        show Ev X k_X9_isWord (39, [some (vr 135), some (vr 1000100), some (vi 1)], [vi 4, vi 1]) (MS I J cc ss) _
        refine ev_n (fr' := (50, [some (vr 135), some (vr 1000100), some (vi 1)], [vi (I 135 8), vr 139])) (S' := MS I J cc ss) 5 rfl ?_
        refine ev_eqi (h8) ?_
        show Ev X k_X9_isWord (50, [some (vr 135), some (vr 1000100), some (vi 1)], [vi (a : Int), vr 139]) (MS I J cc ss) _
        refine ev_n (fr' := (51, [some (vr 135), some (vr 1000100), some (vi 1)], [vi 1, vi (a : Int), vr 139])) (S' := MS I J cc ss) 1 rfl ?_
        refine ev_add (z := (a : Int) + 1) rfl (by omega) (by omega) (by omega) ?_
        show Ev X k_X9_isWord (52, [some (vr 135), some (vr 1000100), some (vi 1)], [vi ((a : Int) + 1), vr 139]) (MS I J cc ss) _
        refine ev_iaN (j := a + 1) (z := (tx (a + 1))) rfl rfl (by omega) (by omega) ((hbf _ (by omega)).1) ?_
        show Ev X k_X9_isWord (53, [some (vr 135), some (vr 1000100), some (vi 1)], [vi (tx (a + 1))]) (MS I J cc ss) _
        refine ev_n (fr' := (55, [some (vr 135), some (vr 1000100), some (vi 1)], [vi 1, vr 1000100, vi (tx (a + 1))])) (S' := MS I J cc ss) 2 rfl ?_
        refine ev_cv rfl rfl rfl ⟨Nat.le_of_ble_eq_true rfl, Nat.le_of_ble_eq_true rfl⟩ (sp_ch_0_1 X _ _ _ _) ?_
        show Ev X k_X9_isWord (58, [some (vr 135), some (vr 1000100), some (vi 1)], [vi 105, vi (tx (a + 1))]) (MS I J cc ss) _
        refine ev_ic (c := .eq) (off := 5) rfl (by decide) (fun (g4 : (tx (a + 1)) = 105) => ?_) (fun (g4 : ¬ ((tx (a + 1)) = 105)) => ?_)
        · show Ev X k_X9_isWord (63, [some (vr 135), some (vr 1000100), some (vi 1)], []) (MS I J cc ss) _
          refine ev_n (fr' := (36, [some (vr 135), some (vr 1000100), some (vi 2)], [vr 1000100, vi 2])) (S' := MS I J cc ss) 4 rfl ?_
          refine ev_cv rfl rfl rfl ⟨Nat.le_of_ble_eq_true rfl, Nat.le_of_ble_eq_true rfl⟩ (sp_len_0 X _ _ _ _) ?_
          show Ev X k_X9_isWord (39, [some (vr 135), some (vr 1000100), some (vi 2)], [vi 4, vi 2]) (MS I J cc ss) _
          refine ev_n (fr' := (50, [some (vr 135), some (vr 1000100), some (vi 2)], [vi (I 135 8), vr 139])) (S' := MS I J cc ss) 5 rfl ?_
          refine ev_eqi (h8) ?_
          show Ev X k_X9_isWord (50, [some (vr 135), some (vr 1000100), some (vi 2)], [vi (a : Int), vr 139]) (MS I J cc ss) _
          refine ev_n (fr' := (51, [some (vr 135), some (vr 1000100), some (vi 2)], [vi 2, vi (a : Int), vr 139])) (S' := MS I J cc ss) 1 rfl ?_
          refine ev_add (z := (a : Int) + 2) rfl (by omega) (by omega) (by omega) ?_
          show Ev X k_X9_isWord (52, [some (vr 135), some (vr 1000100), some (vi 2)], [vi ((a : Int) + 2), vr 139]) (MS I J cc ss) _
          refine ev_iaN (j := a + 2) (z := (tx (a + 2))) rfl rfl (by omega) (by omega) ((hbf _ (by omega)).1) ?_
          show Ev X k_X9_isWord (53, [some (vr 135), some (vr 1000100), some (vi 2)], [vi (tx (a + 2))]) (MS I J cc ss) _
          refine ev_n (fr' := (55, [some (vr 135), some (vr 1000100), some (vi 2)], [vi 2, vr 1000100, vi (tx (a + 2))])) (S' := MS I J cc ss) 2 rfl ?_
          refine ev_cv rfl rfl rfl ⟨Nat.le_of_ble_eq_true rfl, Nat.le_of_ble_eq_true rfl⟩ (sp_ch_0_2 X _ _ _ _) ?_
          show Ev X k_X9_isWord (58, [some (vr 135), some (vr 1000100), some (vi 2)], [vi 122, vi (tx (a + 2))]) (MS I J cc ss) _
          refine ev_ic (c := .eq) (off := 5) rfl (by decide) (fun (g5 : (tx (a + 2)) = 122) => ?_) (fun (g5 : ¬ ((tx (a + 2)) = 122)) => ?_)
          · show Ev X k_X9_isWord (63, [some (vr 135), some (vr 1000100), some (vi 2)], []) (MS I J cc ss) _
            refine ev_n (fr' := (36, [some (vr 135), some (vr 1000100), some (vi 3)], [vr 1000100, vi 3])) (S' := MS I J cc ss) 4 rfl ?_
            refine ev_cv rfl rfl rfl ⟨Nat.le_of_ble_eq_true rfl, Nat.le_of_ble_eq_true rfl⟩ (sp_len_0 X _ _ _ _) ?_
            show Ev X k_X9_isWord (39, [some (vr 135), some (vr 1000100), some (vi 3)], [vi 4, vi 3]) (MS I J cc ss) _
            refine ev_n (fr' := (50, [some (vr 135), some (vr 1000100), some (vi 3)], [vi (I 135 8), vr 139])) (S' := MS I J cc ss) 5 rfl ?_
            refine ev_eqi (h8) ?_
            show Ev X k_X9_isWord (50, [some (vr 135), some (vr 1000100), some (vi 3)], [vi (a : Int), vr 139]) (MS I J cc ss) _
            refine ev_n (fr' := (51, [some (vr 135), some (vr 1000100), some (vi 3)], [vi 3, vi (a : Int), vr 139])) (S' := MS I J cc ss) 1 rfl ?_
            refine ev_add (z := (a : Int) + 3) rfl (by omega) (by omega) (by omega) ?_
            show Ev X k_X9_isWord (52, [some (vr 135), some (vr 1000100), some (vi 3)], [vi ((a : Int) + 3), vr 139]) (MS I J cc ss) _
            refine ev_iaN (j := a + 3) (z := (tx (a + 3))) rfl rfl (by omega) (by omega) ((hbf _ (by omega)).1) ?_
            show Ev X k_X9_isWord (53, [some (vr 135), some (vr 1000100), some (vi 3)], [vi (tx (a + 3))]) (MS I J cc ss) _
            refine ev_n (fr' := (55, [some (vr 135), some (vr 1000100), some (vi 3)], [vi 3, vr 1000100, vi (tx (a + 3))])) (S' := MS I J cc ss) 2 rfl ?_
            refine ev_cv rfl rfl rfl ⟨Nat.le_of_ble_eq_true rfl, Nat.le_of_ble_eq_true rfl⟩ (sp_ch_0_3 X _ _ _ _) ?_
            show Ev X k_X9_isWord (58, [some (vr 135), some (vr 1000100), some (vi 3)], [vi 101, vi (tx (a + 3))]) (MS I J cc ss) _
            refine ev_ic (c := .eq) (off := 5) rfl (by decide) (fun (g6 : (tx (a + 3)) = 101) => ?_) (fun (g6 : ¬ ((tx (a + 3)) = 101)) => ?_)
            · show Ev X k_X9_isWord (63, [some (vr 135), some (vr 1000100), some (vi 3)], []) (MS I J cc ss) _
              refine ev_n (fr' := (36, [some (vr 135), some (vr 1000100), some (vi 4)], [vr 1000100, vi 4])) (S' := MS I J cc ss) 4 rfl ?_
              refine ev_cv rfl rfl rfl ⟨Nat.le_of_ble_eq_true rfl, Nat.le_of_ble_eq_true rfl⟩ (sp_len_0 X _ _ _ _) ?_
              show Ev X k_X9_isWord (39, [some (vr 135), some (vr 1000100), some (vi 4)], [vi 4, vi 4]) (MS I J cc ss) _
              refine ev_n (fr' := (70, [some (vr 135), some (vr 1000100), some (vi 4)], [vi 1])) (S' := MS I J cc ss) 2 rfl ?_
              refine ev_r rfl rfl rfl ?_
              have hk0 := kd_0.mp (Decidable.of_not_not g1)
              have hen := en_0 hk0
              exact ⟨congrArg (fun z => Sum.inl (some (vi z))) (if_pos (wd_0.mpr ⟨by omega, by omega, by omega, by omega, by omega⟩)).symm, rfl⟩
            · show Ev X k_X9_isWord (61, [some (vr 135), some (vr 1000100), some (vi 3)], []) (MS I J cc ss) _
              refine ev_n (fr' := (62, [some (vr 135), some (vr 1000100), some (vi 3)], [vi 0])) (S' := MS I J cc ss) 1 rfl ?_
              refine ev_r rfl rfl rfl ?_
              have hk0 := kd_0.mp (Decidable.of_not_not g1)
              have hen := en_0 hk0
              exact ⟨congrArg (fun z => Sum.inl (some (vi z))) (if_neg (fun q => by have q2 := wd_0.mp q; omega)).symm, rfl⟩
          · show Ev X k_X9_isWord (61, [some (vr 135), some (vr 1000100), some (vi 2)], []) (MS I J cc ss) _
            refine ev_n (fr' := (62, [some (vr 135), some (vr 1000100), some (vi 2)], [vi 0])) (S' := MS I J cc ss) 1 rfl ?_
            refine ev_r rfl rfl rfl ?_
            have hk0 := kd_0.mp (Decidable.of_not_not g1)
            have hen := en_0 hk0
            exact ⟨congrArg (fun z => Sum.inl (some (vi z))) (if_neg (fun q => by have q2 := wd_0.mp q; omega)).symm, rfl⟩
        · show Ev X k_X9_isWord (61, [some (vr 135), some (vr 1000100), some (vi 1)], []) (MS I J cc ss) _
          refine ev_n (fr' := (62, [some (vr 135), some (vr 1000100), some (vi 1)], [vi 0])) (S' := MS I J cc ss) 1 rfl ?_
          refine ev_r rfl rfl rfl ?_
          have hk0 := kd_0.mp (Decidable.of_not_not g1)
          have hen := en_0 hk0
          exact ⟨congrArg (fun z => Sum.inl (some (vi z))) (if_neg (fun q => by have q2 := wd_0.mp q; omega)).symm, rfl⟩
      · show Ev X k_X9_isWord (61, [some (vr 135), some (vr 1000100), some (vi 0)], []) (MS I J cc ss) _
        refine ev_n (fr' := (62, [some (vr 135), some (vr 1000100), some (vi 0)], [vi 0])) (S' := MS I J cc ss) 1 rfl ?_
        refine ev_r rfl rfl rfl ?_
        have hk0 := kd_0.mp (Decidable.of_not_not g1)
        have hen := en_0 hk0
        exact ⟨congrArg (fun z => Sum.inl (some (vi z))) (if_neg (fun q => by have q2 := wd_0.mp q; omega)).symm, rfl⟩
    · show Ev X k_X9_isWord (30, [some (vr 135), some (vr 1000100), none], []) (MS I J cc ss) _
      refine ev_n (fr' := (31, [some (vr 135), some (vr 1000100), none], [vi 0])) (S' := MS I J cc ss) 1 rfl ?_
      refine ev_r rfl rfl rfl ?_
      have hk0 := kd_0.mp (Decidable.of_not_not g1)
      have hen := en_0 hk0
      exact ⟨congrArg (fun z => Sum.inl (some (vi z))) (if_neg (fun q => by have q2 := wd_0.mp q; omega)).symm, rfl⟩
theorem sp_isWordE_0 (X : AX) (I J : Nat → Nat → Int) (cc ss : Nat) (hw0 : I 135 11 ≠ 0) : Ev X k_X9_isWord (0, [some (vr 135), some (vr 1000100), none], []) (MS I J cc ss) (fun o T => o = .inl (some (vi 0)) ∧ T = MS I J cc ss) := by
  refine ev_n (fr' := (4, [some (vr 135), some (vr 1000100), none], [vi (I 135 11)])) (S' := MS I J cc ss) 2 rfl ?_
  refine ev_if (c := .ne) (off := 26) rfl (by decide) (fun (g1 : (I 135 11) ≠ 0) => ?_) (fun (g1 : ¬ ((I 135 11) ≠ 0)) => False.elim (g1 hw0))
  show Ev X k_X9_isWord (30, [some (vr 135), some (vr 1000100), none], []) (MS I J cc ss) _
  refine ev_n (fr' := (31, [some (vr 135), some (vr 1000100), none], [vi 0])) (S' := MS I J cc ss) 1 rfl ?_
  refine ev_r rfl rfl rfl ?_
  exact ⟨rfl, rfl⟩
theorem sp_isWord_1 (X : AX) (I J : Nat → Nat → Int) (cc ss : Nat) {tx : F1} {n : Nat} (hR : RB I tx n) (a : Nat) (hK : TK I J tx n a) (hw0 : I 135 11 = 0) : Ev X k_X9_isWord (0, [some (vr 135), some (vr 1000101), none], []) (MS I J cc ss) (fun o T => o = .inl (some (vi (if wdF tx n a = 6050369 then 1 else 0))) ∧ T = MS I J cc ss) := by
  obtain ⟨ha, hsa, h8, h9, h10, hno⟩ := hK
  obtain ⟨h900, h7, hbf⟩ := hR
  have hen2 := en_le (tx := tx) ha
  refine ev_n (fr' := (4, [some (vr 135), some (vr 1000101), none], [vi (I 135 11)])) (S' := MS I J cc ss) 2 rfl ?_
  refine ev_eqi (hw0) ?_
  show Ev X k_X9_isWord (4, [some (vr 135), some (vr 1000101), none], [vi 0]) (MS I J cc ss) _
  refine ev_n (fr' := (11, [some (vr 135), some (vr 1000101), none], [vi (I 135 10)])) (S' := MS I J cc ss) 3 rfl ?_
  refine ev_eqi (h10) ?_
  show Ev X k_X9_isWord (11, [some (vr 135), some (vr 1000101), none], [vi (kdF tx n a)]) (MS I J cc ss) _
  refine ev_if (c := .ne) (off := 19) rfl (by decide) (fun (g1 : (kdF tx n a) ≠ 0) => ?_) (fun (g1 : ¬ ((kdF tx n a) ≠ 0)) => ?_)
  · show Ev X k_X9_isWord (30, [some (vr 135), some (vr 1000101), none], []) (MS I J cc ss) _
    refine ev_n (fr' := (31, [some (vr 135), some (vr 1000101), none], [vi 0])) (S' := MS I J cc ss) 1 rfl ?_
    refine ev_r rfl rfl rfl ?_
    exact ⟨congrArg (fun z => Sum.inl (some (vi z))) (if_neg (fun q => g1 (kd_0.mpr (by
      have q2 := wd_1.mp q
      rcases Nat.lt_or_ge a n with h | h
      · cases hb : isLe (tx a)
        · have := leF_not (n := n) (Or.inr hb); omega
        · exact ⟨h, rfl⟩
      · have := leF_not (tx := tx) (n := n) (Or.inl h); omega)))).symm, rfl⟩
  · show Ev X k_X9_isWord (14, [some (vr 135), some (vr 1000101), none], []) (MS I J cc ss) _
    refine ev_n (fr' := (18, [some (vr 135), some (vr 1000101), none], [vi (I 135 9)])) (S' := MS I J cc ss) 2 rfl ?_
    refine ev_eqi (h9) ?_
    show Ev X k_X9_isWord (18, [some (vr 135), some (vr 1000101), none], [vi ((enF tx n a) : Int)]) (MS I J cc ss) _
    refine ev_n (fr' := (22, [some (vr 135), some (vr 1000101), none], [vi (I 135 8), vi ((enF tx n a) : Int)])) (S' := MS I J cc ss) 2 rfl ?_
    refine ev_eqi (h8) ?_
    show Ev X k_X9_isWord (22, [some (vr 135), some (vr 1000101), none], [vi (a : Int), vi ((enF tx n a) : Int)]) (MS I J cc ss) _
    refine ev_sub (z := ((enF tx n a) : Int) - (a : Int)) rfl (by omega) (by omega) (by omega) ?_
    show Ev X k_X9_isWord (23, [some (vr 135), some (vr 1000101), none], [vi (((enF tx n a) : Int) - (a : Int))]) (MS I J cc ss) _
    refine ev_n (fr' := (24, [some (vr 135), some (vr 1000101), none], [vr 1000101, vi (((enF tx n a) : Int) - (a : Int))])) (S' := MS I J cc ss) 1 rfl ?_
    refine ev_cv rfl rfl rfl ⟨Nat.le_of_ble_eq_true rfl, Nat.le_of_ble_eq_true rfl⟩ (sp_len_1 X _ _ _ _) ?_
    show Ev X k_X9_isWord (27, [some (vr 135), some (vr 1000101), none], [vi 5, vi (((enF tx n a) : Int) - (a : Int))]) (MS I J cc ss) _
    refine ev_ic (c := .eq) (off := 5) rfl (by decide) (fun (g2 : ((enF tx n a) : Int) - (a : Int) = 5) => ?_) (fun (g2 : ¬ (((enF tx n a) : Int) - (a : Int) = 5)) => ?_)
    · show Ev X k_X9_isWord (32, [some (vr 135), some (vr 1000101), none], []) (MS I J cc ss) _
      have hlt : a + 5 ≤ n := by
        have hk0 := kd_0.mp (Decidable.of_not_not g1)
        have hen := en_0 hk0
        have := leF_le (tx := tx) (n := n) a ha
        omega
      refine ev_n (fr' := (36, [some (vr 135), some (vr 1000101), some (vi 0)], [vr 1000101, vi 0])) (S' := MS I J cc ss) 4 rfl ?_
      refine ev_cv rfl rfl rfl ⟨Nat.le_of_ble_eq_true rfl, Nat.le_of_ble_eq_true rfl⟩ (sp_len_1 X _ _ _ _) ?_
      show Ev X k_X9_isWord (39, [some (vr 135), some (vr 1000101), some (vi 0)], [vi 5, vi 0]) (MS I J cc ss) _
      refine ev_n (fr' := (50, [some (vr 135), some (vr 1000101), some (vi 0)], [vi (I 135 8), vr 139])) (S' := MS I J cc ss) 5 rfl ?_
      refine ev_eqi (h8) ?_
      show Ev X k_X9_isWord (50, [some (vr 135), some (vr 1000101), some (vi 0)], [vi (a : Int), vr 139]) (MS I J cc ss) _
      refine ev_n (fr' := (51, [some (vr 135), some (vr 1000101), some (vi 0)], [vi 0, vi (a : Int), vr 139])) (S' := MS I J cc ss) 1 rfl ?_
      refine ev_add (z := (a : Int)) rfl (by omega) (by omega) (by omega) ?_
      show Ev X k_X9_isWord (52, [some (vr 135), some (vr 1000101), some (vi 0)], [vi (a : Int), vr 139]) (MS I J cc ss) _
      refine ev_iaN (j := a) (z := (tx a)) rfl rfl (by omega) (by omega) ((hbf _ (by omega)).1) ?_
      show Ev X k_X9_isWord (53, [some (vr 135), some (vr 1000101), some (vi 0)], [vi (tx a)]) (MS I J cc ss) _
      refine ev_n (fr' := (55, [some (vr 135), some (vr 1000101), some (vi 0)], [vi 0, vr 1000101, vi (tx a)])) (S' := MS I J cc ss) 2 rfl ?_
      refine ev_cv rfl rfl rfl ⟨Nat.le_of_ble_eq_true rfl, Nat.le_of_ble_eq_true rfl⟩ (sp_ch_1_0 X _ _ _ _) ?_
      show Ev X k_X9_isWord (58, [some (vr 135), some (vr 1000101), some (vi 0)], [vi 101, vi (tx a)]) (MS I J cc ss) _
      refine ev_ic (c := .eq) (off := 5) rfl (by decide) (fun (g3 : (tx a) = 101) => ?_) (fun (g3 : ¬ ((tx a) = 101)) => ?_)
      · show Ev X k_X9_isWord (63, [some (vr 135), some (vr 1000101), some (vi 0)], []) (MS I J cc ss) _
        refine ev_n (fr' := (36, [some (vr 135), some (vr 1000101), some (vi 1)], [vr 1000101, vi 1])) (S' := MS I J cc ss) 4 rfl ?_
        refine ev_cv rfl rfl rfl ⟨Nat.le_of_ble_eq_true rfl, Nat.le_of_ble_eq_true rfl⟩ (sp_len_1 X _ _ _ _) ?_
        show Ev X k_X9_isWord (39, [some (vr 135), some (vr 1000101), some (vi 1)], [vi 5, vi 1]) (MS I J cc ss) _
        refine ev_n (fr' := (50, [some (vr 135), some (vr 1000101), some (vi 1)], [vi (I 135 8), vr 139])) (S' := MS I J cc ss) 5 rfl ?_
        refine ev_eqi (h8) ?_
        show Ev X k_X9_isWord (50, [some (vr 135), some (vr 1000101), some (vi 1)], [vi (a : Int), vr 139]) (MS I J cc ss) _
        refine ev_n (fr' := (51, [some (vr 135), some (vr 1000101), some (vi 1)], [vi 1, vi (a : Int), vr 139])) (S' := MS I J cc ss) 1 rfl ?_
        refine ev_add (z := (a : Int) + 1) rfl (by omega) (by omega) (by omega) ?_
        show Ev X k_X9_isWord (52, [some (vr 135), some (vr 1000101), some (vi 1)], [vi ((a : Int) + 1), vr 139]) (MS I J cc ss) _
        refine ev_iaN (j := a + 1) (z := (tx (a + 1))) rfl rfl (by omega) (by omega) ((hbf _ (by omega)).1) ?_
        show Ev X k_X9_isWord (53, [some (vr 135), some (vr 1000101), some (vi 1)], [vi (tx (a + 1))]) (MS I J cc ss) _
        refine ev_n (fr' := (55, [some (vr 135), some (vr 1000101), some (vi 1)], [vi 1, vr 1000101, vi (tx (a + 1))])) (S' := MS I J cc ss) 2 rfl ?_
        refine ev_cv rfl rfl rfl ⟨Nat.le_of_ble_eq_true rfl, Nat.le_of_ble_eq_true rfl⟩ (sp_ch_1_1 X _ _ _ _) ?_
        show Ev X k_X9_isWord (58, [some (vr 135), some (vr 1000101), some (vi 1)], [vi 120, vi (tx (a + 1))]) (MS I J cc ss) _
        refine ev_ic (c := .eq) (off := 5) rfl (by decide) (fun (g4 : (tx (a + 1)) = 120) => ?_) (fun (g4 : ¬ ((tx (a + 1)) = 120)) => ?_)
        · show Ev X k_X9_isWord (63, [some (vr 135), some (vr 1000101), some (vi 1)], []) (MS I J cc ss) _
          refine ev_n (fr' := (36, [some (vr 135), some (vr 1000101), some (vi 2)], [vr 1000101, vi 2])) (S' := MS I J cc ss) 4 rfl ?_
          refine ev_cv rfl rfl rfl ⟨Nat.le_of_ble_eq_true rfl, Nat.le_of_ble_eq_true rfl⟩ (sp_len_1 X _ _ _ _) ?_
          show Ev X k_X9_isWord (39, [some (vr 135), some (vr 1000101), some (vi 2)], [vi 5, vi 2]) (MS I J cc ss) _
          refine ev_n (fr' := (50, [some (vr 135), some (vr 1000101), some (vi 2)], [vi (I 135 8), vr 139])) (S' := MS I J cc ss) 5 rfl ?_
          refine ev_eqi (h8) ?_
          show Ev X k_X9_isWord (50, [some (vr 135), some (vr 1000101), some (vi 2)], [vi (a : Int), vr 139]) (MS I J cc ss) _
          refine ev_n (fr' := (51, [some (vr 135), some (vr 1000101), some (vi 2)], [vi 2, vi (a : Int), vr 139])) (S' := MS I J cc ss) 1 rfl ?_
          refine ev_add (z := (a : Int) + 2) rfl (by omega) (by omega) (by omega) ?_
          show Ev X k_X9_isWord (52, [some (vr 135), some (vr 1000101), some (vi 2)], [vi ((a : Int) + 2), vr 139]) (MS I J cc ss) _
          refine ev_iaN (j := a + 2) (z := (tx (a + 2))) rfl rfl (by omega) (by omega) ((hbf _ (by omega)).1) ?_
          show Ev X k_X9_isWord (53, [some (vr 135), some (vr 1000101), some (vi 2)], [vi (tx (a + 2))]) (MS I J cc ss) _
          refine ev_n (fr' := (55, [some (vr 135), some (vr 1000101), some (vi 2)], [vi 2, vr 1000101, vi (tx (a + 2))])) (S' := MS I J cc ss) 2 rfl ?_
          refine ev_cv rfl rfl rfl ⟨Nat.le_of_ble_eq_true rfl, Nat.le_of_ble_eq_true rfl⟩ (sp_ch_1_2 X _ _ _ _) ?_
          show Ev X k_X9_isWord (58, [some (vr 135), some (vr 1000101), some (vi 2)], [vi 116, vi (tx (a + 2))]) (MS I J cc ss) _
          refine ev_ic (c := .eq) (off := 5) rfl (by decide) (fun (g5 : (tx (a + 2)) = 116) => ?_) (fun (g5 : ¬ ((tx (a + 2)) = 116)) => ?_)
          · show Ev X k_X9_isWord (63, [some (vr 135), some (vr 1000101), some (vi 2)], []) (MS I J cc ss) _
            refine ev_n (fr' := (36, [some (vr 135), some (vr 1000101), some (vi 3)], [vr 1000101, vi 3])) (S' := MS I J cc ss) 4 rfl ?_
            refine ev_cv rfl rfl rfl ⟨Nat.le_of_ble_eq_true rfl, Nat.le_of_ble_eq_true rfl⟩ (sp_len_1 X _ _ _ _) ?_
            show Ev X k_X9_isWord (39, [some (vr 135), some (vr 1000101), some (vi 3)], [vi 5, vi 3]) (MS I J cc ss) _
            refine ev_n (fr' := (50, [some (vr 135), some (vr 1000101), some (vi 3)], [vi (I 135 8), vr 139])) (S' := MS I J cc ss) 5 rfl ?_
            refine ev_eqi (h8) ?_
            show Ev X k_X9_isWord (50, [some (vr 135), some (vr 1000101), some (vi 3)], [vi (a : Int), vr 139]) (MS I J cc ss) _
            refine ev_n (fr' := (51, [some (vr 135), some (vr 1000101), some (vi 3)], [vi 3, vi (a : Int), vr 139])) (S' := MS I J cc ss) 1 rfl ?_
            refine ev_add (z := (a : Int) + 3) rfl (by omega) (by omega) (by omega) ?_
            show Ev X k_X9_isWord (52, [some (vr 135), some (vr 1000101), some (vi 3)], [vi ((a : Int) + 3), vr 139]) (MS I J cc ss) _
            refine ev_iaN (j := a + 3) (z := (tx (a + 3))) rfl rfl (by omega) (by omega) ((hbf _ (by omega)).1) ?_
            show Ev X k_X9_isWord (53, [some (vr 135), some (vr 1000101), some (vi 3)], [vi (tx (a + 3))]) (MS I J cc ss) _
            refine ev_n (fr' := (55, [some (vr 135), some (vr 1000101), some (vi 3)], [vi 3, vr 1000101, vi (tx (a + 3))])) (S' := MS I J cc ss) 2 rfl ?_
            refine ev_cv rfl rfl rfl ⟨Nat.le_of_ble_eq_true rfl, Nat.le_of_ble_eq_true rfl⟩ (sp_ch_1_3 X _ _ _ _) ?_
            show Ev X k_X9_isWord (58, [some (vr 135), some (vr 1000101), some (vi 3)], [vi 114, vi (tx (a + 3))]) (MS I J cc ss) _
            refine ev_ic (c := .eq) (off := 5) rfl (by decide) (fun (g6 : (tx (a + 3)) = 114) => ?_) (fun (g6 : ¬ ((tx (a + 3)) = 114)) => ?_)
            · show Ev X k_X9_isWord (63, [some (vr 135), some (vr 1000101), some (vi 3)], []) (MS I J cc ss) _
              refine ev_n (fr' := (36, [some (vr 135), some (vr 1000101), some (vi 4)], [vr 1000101, vi 4])) (S' := MS I J cc ss) 4 rfl ?_
              refine ev_cv rfl rfl rfl ⟨Nat.le_of_ble_eq_true rfl, Nat.le_of_ble_eq_true rfl⟩ (sp_len_1 X _ _ _ _) ?_
              show Ev X k_X9_isWord (39, [some (vr 135), some (vr 1000101), some (vi 4)], [vi 5, vi 4]) (MS I J cc ss) _
              refine ev_n (fr' := (50, [some (vr 135), some (vr 1000101), some (vi 4)], [vi (I 135 8), vr 139])) (S' := MS I J cc ss) 5 rfl ?_
              refine ev_eqi (h8) ?_
              show Ev X k_X9_isWord (50, [some (vr 135), some (vr 1000101), some (vi 4)], [vi (a : Int), vr 139]) (MS I J cc ss) _
              refine ev_n (fr' := (51, [some (vr 135), some (vr 1000101), some (vi 4)], [vi 4, vi (a : Int), vr 139])) (S' := MS I J cc ss) 1 rfl ?_
              refine ev_add (z := (a : Int) + 4) rfl (by omega) (by omega) (by omega) ?_
              show Ev X k_X9_isWord (52, [some (vr 135), some (vr 1000101), some (vi 4)], [vi ((a : Int) + 4), vr 139]) (MS I J cc ss) _
              refine ev_iaN (j := a + 4) (z := (tx (a + 4))) rfl rfl (by omega) (by omega) ((hbf _ (by omega)).1) ?_
              show Ev X k_X9_isWord (53, [some (vr 135), some (vr 1000101), some (vi 4)], [vi (tx (a + 4))]) (MS I J cc ss) _
              refine ev_n (fr' := (55, [some (vr 135), some (vr 1000101), some (vi 4)], [vi 4, vr 1000101, vi (tx (a + 4))])) (S' := MS I J cc ss) 2 rfl ?_
              refine ev_cv rfl rfl rfl ⟨Nat.le_of_ble_eq_true rfl, Nat.le_of_ble_eq_true rfl⟩ (sp_ch_1_4 X _ _ _ _) ?_
              show Ev X k_X9_isWord (58, [some (vr 135), some (vr 1000101), some (vi 4)], [vi 97, vi (tx (a + 4))]) (MS I J cc ss) _
              refine ev_ic (c := .eq) (off := 5) rfl (by decide) (fun (g7 : (tx (a + 4)) = 97) => ?_) (fun (g7 : ¬ ((tx (a + 4)) = 97)) => ?_)
              · show Ev X k_X9_isWord (63, [some (vr 135), some (vr 1000101), some (vi 4)], []) (MS I J cc ss) _
                refine ev_n (fr' := (36, [some (vr 135), some (vr 1000101), some (vi 5)], [vr 1000101, vi 5])) (S' := MS I J cc ss) 4 rfl ?_
                refine ev_cv rfl rfl rfl ⟨Nat.le_of_ble_eq_true rfl, Nat.le_of_ble_eq_true rfl⟩ (sp_len_1 X _ _ _ _) ?_
                show Ev X k_X9_isWord (39, [some (vr 135), some (vr 1000101), some (vi 5)], [vi 5, vi 5]) (MS I J cc ss) _
                refine ev_n (fr' := (70, [some (vr 135), some (vr 1000101), some (vi 5)], [vi 1])) (S' := MS I J cc ss) 2 rfl ?_
                refine ev_r rfl rfl rfl ?_
                have hk0 := kd_0.mp (Decidable.of_not_not g1)
                have hen := en_0 hk0
                exact ⟨congrArg (fun z => Sum.inl (some (vi z))) (if_pos (wd_1.mpr ⟨by omega, by omega, by omega, by omega, by omega, by omega⟩)).symm, rfl⟩
              · show Ev X k_X9_isWord (61, [some (vr 135), some (vr 1000101), some (vi 4)], []) (MS I J cc ss) _
                refine ev_n (fr' := (62, [some (vr 135), some (vr 1000101), some (vi 4)], [vi 0])) (S' := MS I J cc ss) 1 rfl ?_
                refine ev_r rfl rfl rfl ?_
                have hk0 := kd_0.mp (Decidable.of_not_not g1)
                have hen := en_0 hk0
                exact ⟨congrArg (fun z => Sum.inl (some (vi z))) (if_neg (fun q => by have q2 := wd_1.mp q; omega)).symm, rfl⟩
            · show Ev X k_X9_isWord (61, [some (vr 135), some (vr 1000101), some (vi 3)], []) (MS I J cc ss) _
              refine ev_n (fr' := (62, [some (vr 135), some (vr 1000101), some (vi 3)], [vi 0])) (S' := MS I J cc ss) 1 rfl ?_
              refine ev_r rfl rfl rfl ?_
              have hk0 := kd_0.mp (Decidable.of_not_not g1)
              have hen := en_0 hk0
              exact ⟨congrArg (fun z => Sum.inl (some (vi z))) (if_neg (fun q => by have q2 := wd_1.mp q; omega)).symm, rfl⟩
          · show Ev X k_X9_isWord (61, [some (vr 135), some (vr 1000101), some (vi 2)], []) (MS I J cc ss) _
            refine ev_n (fr' := (62, [some (vr 135), some (vr 1000101), some (vi 2)], [vi 0])) (S' := MS I J cc ss) 1 rfl ?_
            refine ev_r rfl rfl rfl ?_
            have hk0 := kd_0.mp (Decidable.of_not_not g1)
            have hen := en_0 hk0
            exact ⟨congrArg (fun z => Sum.inl (some (vi z))) (if_neg (fun q => by have q2 := wd_1.mp q; omega)).symm, rfl⟩
        · show Ev X k_X9_isWord (61, [some (vr 135), some (vr 1000101), some (vi 1)], []) (MS I J cc ss) _
          refine ev_n (fr' := (62, [some (vr 135), some (vr 1000101), some (vi 1)], [vi 0])) (S' := MS I J cc ss) 1 rfl ?_
          refine ev_r rfl rfl rfl ?_
          have hk0 := kd_0.mp (Decidable.of_not_not g1)
          have hen := en_0 hk0
          exact ⟨congrArg (fun z => Sum.inl (some (vi z))) (if_neg (fun q => by have q2 := wd_1.mp q; omega)).symm, rfl⟩
      · show Ev X k_X9_isWord (61, [some (vr 135), some (vr 1000101), some (vi 0)], []) (MS I J cc ss) _
        refine ev_n (fr' := (62, [some (vr 135), some (vr 1000101), some (vi 0)], [vi 0])) (S' := MS I J cc ss) 1 rfl ?_
        refine ev_r rfl rfl rfl ?_
        have hk0 := kd_0.mp (Decidable.of_not_not g1)
        have hen := en_0 hk0
        exact ⟨congrArg (fun z => Sum.inl (some (vi z))) (if_neg (fun q => by have q2 := wd_1.mp q; omega)).symm, rfl⟩
    · show Ev X k_X9_isWord (30, [some (vr 135), some (vr 1000101), none], []) (MS I J cc ss) _
      refine ev_n (fr' := (31, [some (vr 135), some (vr 1000101), none], [vi 0])) (S' := MS I J cc ss) 1 rfl ?_
      refine ev_r rfl rfl rfl ?_
      have hk0 := kd_0.mp (Decidable.of_not_not g1)
      have hen := en_0 hk0
      exact ⟨congrArg (fun z => Sum.inl (some (vi z))) (if_neg (fun q => by have q2 := wd_1.mp q; omega)).symm, rfl⟩
theorem sp_isWordE_1 (X : AX) (I J : Nat → Nat → Int) (cc ss : Nat) (hw0 : I 135 11 ≠ 0) : Ev X k_X9_isWord (0, [some (vr 135), some (vr 1000101), none], []) (MS I J cc ss) (fun o T => o = .inl (some (vi 0)) ∧ T = MS I J cc ss) := by
  refine ev_n (fr' := (4, [some (vr 135), some (vr 1000101), none], [vi (I 135 11)])) (S' := MS I J cc ss) 2 rfl ?_
  refine ev_if (c := .ne) (off := 26) rfl (by decide) (fun (g1 : (I 135 11) ≠ 0) => ?_) (fun (g1 : ¬ ((I 135 11) ≠ 0)) => False.elim (g1 hw0))
  show Ev X k_X9_isWord (30, [some (vr 135), some (vr 1000101), none], []) (MS I J cc ss) _
  refine ev_n (fr' := (31, [some (vr 135), some (vr 1000101), none], [vi 0])) (S' := MS I J cc ss) 1 rfl ?_
  refine ev_r rfl rfl rfl ?_
  exact ⟨rfl, rfl⟩
theorem sp_isWord_2 (X : AX) (I J : Nat → Nat → Int) (cc ss : Nat) {tx : F1} {n : Nat} (hR : RB I tx n) (a : Nat) (hK : TK I J tx n a) (hw0 : I 135 11 = 0) : Ev X k_X9_isWord (0, [some (vr 135), some (vr 1000102), none], []) (MS I J cc ss) (fun o T => o = .inl (some (vi (if wdF tx n a = 525908 then 1 else 0))) ∧ T = MS I J cc ss) := by
  obtain ⟨ha, hsa, h8, h9, h10, hno⟩ := hK
  obtain ⟨h900, h7, hbf⟩ := hR
  have hen2 := en_le (tx := tx) ha
  refine ev_n (fr' := (4, [some (vr 135), some (vr 1000102), none], [vi (I 135 11)])) (S' := MS I J cc ss) 2 rfl ?_
  refine ev_eqi (hw0) ?_
  show Ev X k_X9_isWord (4, [some (vr 135), some (vr 1000102), none], [vi 0]) (MS I J cc ss) _
  refine ev_n (fr' := (11, [some (vr 135), some (vr 1000102), none], [vi (I 135 10)])) (S' := MS I J cc ss) 3 rfl ?_
  refine ev_eqi (h10) ?_
  show Ev X k_X9_isWord (11, [some (vr 135), some (vr 1000102), none], [vi (kdF tx n a)]) (MS I J cc ss) _
  refine ev_if (c := .ne) (off := 19) rfl (by decide) (fun (g1 : (kdF tx n a) ≠ 0) => ?_) (fun (g1 : ¬ ((kdF tx n a) ≠ 0)) => ?_)
  · show Ev X k_X9_isWord (30, [some (vr 135), some (vr 1000102), none], []) (MS I J cc ss) _
    refine ev_n (fr' := (31, [some (vr 135), some (vr 1000102), none], [vi 0])) (S' := MS I J cc ss) 1 rfl ?_
    refine ev_r rfl rfl rfl ?_
    exact ⟨congrArg (fun z => Sum.inl (some (vi z))) (if_neg (fun q => g1 (kd_0.mpr (by
      have q2 := wd_2.mp q
      rcases Nat.lt_or_ge a n with h | h
      · cases hb : isLe (tx a)
        · have := leF_not (n := n) (Or.inr hb); omega
        · exact ⟨h, rfl⟩
      · have := leF_not (tx := tx) (n := n) (Or.inl h); omega)))).symm, rfl⟩
  · show Ev X k_X9_isWord (14, [some (vr 135), some (vr 1000102), none], []) (MS I J cc ss) _
    refine ev_n (fr' := (18, [some (vr 135), some (vr 1000102), none], [vi (I 135 9)])) (S' := MS I J cc ss) 2 rfl ?_
    refine ev_eqi (h9) ?_
    show Ev X k_X9_isWord (18, [some (vr 135), some (vr 1000102), none], [vi ((enF tx n a) : Int)]) (MS I J cc ss) _
    refine ev_n (fr' := (22, [some (vr 135), some (vr 1000102), none], [vi (I 135 8), vi ((enF tx n a) : Int)])) (S' := MS I J cc ss) 2 rfl ?_
    refine ev_eqi (h8) ?_
    show Ev X k_X9_isWord (22, [some (vr 135), some (vr 1000102), none], [vi (a : Int), vi ((enF tx n a) : Int)]) (MS I J cc ss) _
    refine ev_sub (z := ((enF tx n a) : Int) - (a : Int)) rfl (by omega) (by omega) (by omega) ?_
    show Ev X k_X9_isWord (23, [some (vr 135), some (vr 1000102), none], [vi (((enF tx n a) : Int) - (a : Int))]) (MS I J cc ss) _
    refine ev_n (fr' := (24, [some (vr 135), some (vr 1000102), none], [vr 1000102, vi (((enF tx n a) : Int) - (a : Int))])) (S' := MS I J cc ss) 1 rfl ?_
    refine ev_cv rfl rfl rfl ⟨Nat.le_of_ble_eq_true rfl, Nat.le_of_ble_eq_true rfl⟩ (sp_len_2 X _ _ _ _) ?_
    show Ev X k_X9_isWord (27, [some (vr 135), some (vr 1000102), none], [vi 4, vi (((enF tx n a) : Int) - (a : Int))]) (MS I J cc ss) _
    refine ev_ic (c := .eq) (off := 5) rfl (by decide) (fun (g2 : ((enF tx n a) : Int) - (a : Int) = 4) => ?_) (fun (g2 : ¬ (((enF tx n a) : Int) - (a : Int) = 4)) => ?_)
    · show Ev X k_X9_isWord (32, [some (vr 135), some (vr 1000102), none], []) (MS I J cc ss) _
      have hlt : a + 4 ≤ n := by
        have hk0 := kd_0.mp (Decidable.of_not_not g1)
        have hen := en_0 hk0
        have := leF_le (tx := tx) (n := n) a ha
        omega
      refine ev_n (fr' := (36, [some (vr 135), some (vr 1000102), some (vi 0)], [vr 1000102, vi 0])) (S' := MS I J cc ss) 4 rfl ?_
      refine ev_cv rfl rfl rfl ⟨Nat.le_of_ble_eq_true rfl, Nat.le_of_ble_eq_true rfl⟩ (sp_len_2 X _ _ _ _) ?_
      show Ev X k_X9_isWord (39, [some (vr 135), some (vr 1000102), some (vi 0)], [vi 4, vi 0]) (MS I J cc ss) _
      refine ev_n (fr' := (50, [some (vr 135), some (vr 1000102), some (vi 0)], [vi (I 135 8), vr 139])) (S' := MS I J cc ss) 5 rfl ?_
      refine ev_eqi (h8) ?_
      show Ev X k_X9_isWord (50, [some (vr 135), some (vr 1000102), some (vi 0)], [vi (a : Int), vr 139]) (MS I J cc ss) _
      refine ev_n (fr' := (51, [some (vr 135), some (vr 1000102), some (vi 0)], [vi 0, vi (a : Int), vr 139])) (S' := MS I J cc ss) 1 rfl ?_
      refine ev_add (z := (a : Int)) rfl (by omega) (by omega) (by omega) ?_
      show Ev X k_X9_isWord (52, [some (vr 135), some (vr 1000102), some (vi 0)], [vi (a : Int), vr 139]) (MS I J cc ss) _
      refine ev_iaN (j := a) (z := (tx a)) rfl rfl (by omega) (by omega) ((hbf _ (by omega)).1) ?_
      show Ev X k_X9_isWord (53, [some (vr 135), some (vr 1000102), some (vi 0)], [vi (tx a)]) (MS I J cc ss) _
      refine ev_n (fr' := (55, [some (vr 135), some (vr 1000102), some (vi 0)], [vi 0, vr 1000102, vi (tx a)])) (S' := MS I J cc ss) 2 rfl ?_
      refine ev_cv rfl rfl rfl ⟨Nat.le_of_ble_eq_true rfl, Nat.le_of_ble_eq_true rfl⟩ (sp_ch_2_0 X _ _ _ _) ?_
      show Ev X k_X9_isWord (58, [some (vr 135), some (vr 1000102), some (vi 0)], [vi 112, vi (tx a)]) (MS I J cc ss) _
      refine ev_ic (c := .eq) (off := 5) rfl (by decide) (fun (g3 : (tx a) = 112) => ?_) (fun (g3 : ¬ ((tx a) = 112)) => ?_)
      · show Ev X k_X9_isWord (63, [some (vr 135), some (vr 1000102), some (vi 0)], []) (MS I J cc ss) _
        refine ev_n (fr' := (36, [some (vr 135), some (vr 1000102), some (vi 1)], [vr 1000102, vi 1])) (S' := MS I J cc ss) 4 rfl ?_
        refine ev_cv rfl rfl rfl ⟨Nat.le_of_ble_eq_true rfl, Nat.le_of_ble_eq_true rfl⟩ (sp_len_2 X _ _ _ _) ?_
        show Ev X k_X9_isWord (39, [some (vr 135), some (vr 1000102), some (vi 1)], [vi 4, vi 1]) (MS I J cc ss) _
        refine ev_n (fr' := (50, [some (vr 135), some (vr 1000102), some (vi 1)], [vi (I 135 8), vr 139])) (S' := MS I J cc ss) 5 rfl ?_
        refine ev_eqi (h8) ?_
        show Ev X k_X9_isWord (50, [some (vr 135), some (vr 1000102), some (vi 1)], [vi (a : Int), vr 139]) (MS I J cc ss) _
        refine ev_n (fr' := (51, [some (vr 135), some (vr 1000102), some (vi 1)], [vi 1, vi (a : Int), vr 139])) (S' := MS I J cc ss) 1 rfl ?_
        refine ev_add (z := (a : Int) + 1) rfl (by omega) (by omega) (by omega) ?_
        show Ev X k_X9_isWord (52, [some (vr 135), some (vr 1000102), some (vi 1)], [vi ((a : Int) + 1), vr 139]) (MS I J cc ss) _
        refine ev_iaN (j := a + 1) (z := (tx (a + 1))) rfl rfl (by omega) (by omega) ((hbf _ (by omega)).1) ?_
        show Ev X k_X9_isWord (53, [some (vr 135), some (vr 1000102), some (vi 1)], [vi (tx (a + 1))]) (MS I J cc ss) _
        refine ev_n (fr' := (55, [some (vr 135), some (vr 1000102), some (vi 1)], [vi 1, vr 1000102, vi (tx (a + 1))])) (S' := MS I J cc ss) 2 rfl ?_
        refine ev_cv rfl rfl rfl ⟨Nat.le_of_ble_eq_true rfl, Nat.le_of_ble_eq_true rfl⟩ (sp_ch_2_1 X _ _ _ _) ?_
        show Ev X k_X9_isWord (58, [some (vr 135), some (vr 1000102), some (vi 1)], [vi 97, vi (tx (a + 1))]) (MS I J cc ss) _
        refine ev_ic (c := .eq) (off := 5) rfl (by decide) (fun (g4 : (tx (a + 1)) = 97) => ?_) (fun (g4 : ¬ ((tx (a + 1)) = 97)) => ?_)
        · show Ev X k_X9_isWord (63, [some (vr 135), some (vr 1000102), some (vi 1)], []) (MS I J cc ss) _
          refine ev_n (fr' := (36, [some (vr 135), some (vr 1000102), some (vi 2)], [vr 1000102, vi 2])) (S' := MS I J cc ss) 4 rfl ?_
          refine ev_cv rfl rfl rfl ⟨Nat.le_of_ble_eq_true rfl, Nat.le_of_ble_eq_true rfl⟩ (sp_len_2 X _ _ _ _) ?_
          show Ev X k_X9_isWord (39, [some (vr 135), some (vr 1000102), some (vi 2)], [vi 4, vi 2]) (MS I J cc ss) _
          refine ev_n (fr' := (50, [some (vr 135), some (vr 1000102), some (vi 2)], [vi (I 135 8), vr 139])) (S' := MS I J cc ss) 5 rfl ?_
          refine ev_eqi (h8) ?_
          show Ev X k_X9_isWord (50, [some (vr 135), some (vr 1000102), some (vi 2)], [vi (a : Int), vr 139]) (MS I J cc ss) _
          refine ev_n (fr' := (51, [some (vr 135), some (vr 1000102), some (vi 2)], [vi 2, vi (a : Int), vr 139])) (S' := MS I J cc ss) 1 rfl ?_
          refine ev_add (z := (a : Int) + 2) rfl (by omega) (by omega) (by omega) ?_
          show Ev X k_X9_isWord (52, [some (vr 135), some (vr 1000102), some (vi 2)], [vi ((a : Int) + 2), vr 139]) (MS I J cc ss) _
          refine ev_iaN (j := a + 2) (z := (tx (a + 2))) rfl rfl (by omega) (by omega) ((hbf _ (by omega)).1) ?_
          show Ev X k_X9_isWord (53, [some (vr 135), some (vr 1000102), some (vi 2)], [vi (tx (a + 2))]) (MS I J cc ss) _
          refine ev_n (fr' := (55, [some (vr 135), some (vr 1000102), some (vi 2)], [vi 2, vr 1000102, vi (tx (a + 2))])) (S' := MS I J cc ss) 2 rfl ?_
          refine ev_cv rfl rfl rfl ⟨Nat.le_of_ble_eq_true rfl, Nat.le_of_ble_eq_true rfl⟩ (sp_ch_2_2 X _ _ _ _) ?_
          show Ev X k_X9_isWord (58, [some (vr 135), some (vr 1000102), some (vi 2)], [vi 114, vi (tx (a + 2))]) (MS I J cc ss) _
          refine ev_ic (c := .eq) (off := 5) rfl (by decide) (fun (g5 : (tx (a + 2)) = 114) => ?_) (fun (g5 : ¬ ((tx (a + 2)) = 114)) => ?_)
          · show Ev X k_X9_isWord (63, [some (vr 135), some (vr 1000102), some (vi 2)], []) (MS I J cc ss) _
            refine ev_n (fr' := (36, [some (vr 135), some (vr 1000102), some (vi 3)], [vr 1000102, vi 3])) (S' := MS I J cc ss) 4 rfl ?_
            refine ev_cv rfl rfl rfl ⟨Nat.le_of_ble_eq_true rfl, Nat.le_of_ble_eq_true rfl⟩ (sp_len_2 X _ _ _ _) ?_
            show Ev X k_X9_isWord (39, [some (vr 135), some (vr 1000102), some (vi 3)], [vi 4, vi 3]) (MS I J cc ss) _
            refine ev_n (fr' := (50, [some (vr 135), some (vr 1000102), some (vi 3)], [vi (I 135 8), vr 139])) (S' := MS I J cc ss) 5 rfl ?_
            refine ev_eqi (h8) ?_
            show Ev X k_X9_isWord (50, [some (vr 135), some (vr 1000102), some (vi 3)], [vi (a : Int), vr 139]) (MS I J cc ss) _
            refine ev_n (fr' := (51, [some (vr 135), some (vr 1000102), some (vi 3)], [vi 3, vi (a : Int), vr 139])) (S' := MS I J cc ss) 1 rfl ?_
            refine ev_add (z := (a : Int) + 3) rfl (by omega) (by omega) (by omega) ?_
            show Ev X k_X9_isWord (52, [some (vr 135), some (vr 1000102), some (vi 3)], [vi ((a : Int) + 3), vr 139]) (MS I J cc ss) _
            refine ev_iaN (j := a + 3) (z := (tx (a + 3))) rfl rfl (by omega) (by omega) ((hbf _ (by omega)).1) ?_
            show Ev X k_X9_isWord (53, [some (vr 135), some (vr 1000102), some (vi 3)], [vi (tx (a + 3))]) (MS I J cc ss) _
            refine ev_n (fr' := (55, [some (vr 135), some (vr 1000102), some (vi 3)], [vi 3, vr 1000102, vi (tx (a + 3))])) (S' := MS I J cc ss) 2 rfl ?_
            refine ev_cv rfl rfl rfl ⟨Nat.le_of_ble_eq_true rfl, Nat.le_of_ble_eq_true rfl⟩ (sp_ch_2_3 X _ _ _ _) ?_
            show Ev X k_X9_isWord (58, [some (vr 135), some (vr 1000102), some (vi 3)], [vi 116, vi (tx (a + 3))]) (MS I J cc ss) _
            refine ev_ic (c := .eq) (off := 5) rfl (by decide) (fun (g6 : (tx (a + 3)) = 116) => ?_) (fun (g6 : ¬ ((tx (a + 3)) = 116)) => ?_)
            · show Ev X k_X9_isWord (63, [some (vr 135), some (vr 1000102), some (vi 3)], []) (MS I J cc ss) _
              refine ev_n (fr' := (36, [some (vr 135), some (vr 1000102), some (vi 4)], [vr 1000102, vi 4])) (S' := MS I J cc ss) 4 rfl ?_
              refine ev_cv rfl rfl rfl ⟨Nat.le_of_ble_eq_true rfl, Nat.le_of_ble_eq_true rfl⟩ (sp_len_2 X _ _ _ _) ?_
              show Ev X k_X9_isWord (39, [some (vr 135), some (vr 1000102), some (vi 4)], [vi 4, vi 4]) (MS I J cc ss) _
              refine ev_n (fr' := (70, [some (vr 135), some (vr 1000102), some (vi 4)], [vi 1])) (S' := MS I J cc ss) 2 rfl ?_
              refine ev_r rfl rfl rfl ?_
              have hk0 := kd_0.mp (Decidable.of_not_not g1)
              have hen := en_0 hk0
              exact ⟨congrArg (fun z => Sum.inl (some (vi z))) (if_pos (wd_2.mpr ⟨by omega, by omega, by omega, by omega, by omega⟩)).symm, rfl⟩
            · show Ev X k_X9_isWord (61, [some (vr 135), some (vr 1000102), some (vi 3)], []) (MS I J cc ss) _
              refine ev_n (fr' := (62, [some (vr 135), some (vr 1000102), some (vi 3)], [vi 0])) (S' := MS I J cc ss) 1 rfl ?_
              refine ev_r rfl rfl rfl ?_
              have hk0 := kd_0.mp (Decidable.of_not_not g1)
              have hen := en_0 hk0
              exact ⟨congrArg (fun z => Sum.inl (some (vi z))) (if_neg (fun q => by have q2 := wd_2.mp q; omega)).symm, rfl⟩
          · show Ev X k_X9_isWord (61, [some (vr 135), some (vr 1000102), some (vi 2)], []) (MS I J cc ss) _
            refine ev_n (fr' := (62, [some (vr 135), some (vr 1000102), some (vi 2)], [vi 0])) (S' := MS I J cc ss) 1 rfl ?_
            refine ev_r rfl rfl rfl ?_
            have hk0 := kd_0.mp (Decidable.of_not_not g1)
            have hen := en_0 hk0
            exact ⟨congrArg (fun z => Sum.inl (some (vi z))) (if_neg (fun q => by have q2 := wd_2.mp q; omega)).symm, rfl⟩
        · show Ev X k_X9_isWord (61, [some (vr 135), some (vr 1000102), some (vi 1)], []) (MS I J cc ss) _
          refine ev_n (fr' := (62, [some (vr 135), some (vr 1000102), some (vi 1)], [vi 0])) (S' := MS I J cc ss) 1 rfl ?_
          refine ev_r rfl rfl rfl ?_
          have hk0 := kd_0.mp (Decidable.of_not_not g1)
          have hen := en_0 hk0
          exact ⟨congrArg (fun z => Sum.inl (some (vi z))) (if_neg (fun q => by have q2 := wd_2.mp q; omega)).symm, rfl⟩
      · show Ev X k_X9_isWord (61, [some (vr 135), some (vr 1000102), some (vi 0)], []) (MS I J cc ss) _
        refine ev_n (fr' := (62, [some (vr 135), some (vr 1000102), some (vi 0)], [vi 0])) (S' := MS I J cc ss) 1 rfl ?_
        refine ev_r rfl rfl rfl ?_
        have hk0 := kd_0.mp (Decidable.of_not_not g1)
        have hen := en_0 hk0
        exact ⟨congrArg (fun z => Sum.inl (some (vi z))) (if_neg (fun q => by have q2 := wd_2.mp q; omega)).symm, rfl⟩
    · show Ev X k_X9_isWord (30, [some (vr 135), some (vr 1000102), none], []) (MS I J cc ss) _
      refine ev_n (fr' := (31, [some (vr 135), some (vr 1000102), none], [vi 0])) (S' := MS I J cc ss) 1 rfl ?_
      refine ev_r rfl rfl rfl ?_
      have hk0 := kd_0.mp (Decidable.of_not_not g1)
      have hen := en_0 hk0
      exact ⟨congrArg (fun z => Sum.inl (some (vi z))) (if_neg (fun q => by have q2 := wd_2.mp q; omega)).symm, rfl⟩
theorem sp_isWordE_2 (X : AX) (I J : Nat → Nat → Int) (cc ss : Nat) (hw0 : I 135 11 ≠ 0) : Ev X k_X9_isWord (0, [some (vr 135), some (vr 1000102), none], []) (MS I J cc ss) (fun o T => o = .inl (some (vi 0)) ∧ T = MS I J cc ss) := by
  refine ev_n (fr' := (4, [some (vr 135), some (vr 1000102), none], [vi (I 135 11)])) (S' := MS I J cc ss) 2 rfl ?_
  refine ev_if (c := .ne) (off := 26) rfl (by decide) (fun (g1 : (I 135 11) ≠ 0) => ?_) (fun (g1 : ¬ ((I 135 11) ≠ 0)) => False.elim (g1 hw0))
  show Ev X k_X9_isWord (30, [some (vr 135), some (vr 1000102), none], []) (MS I J cc ss) _
  refine ev_n (fr' := (31, [some (vr 135), some (vr 1000102), none], [vi 0])) (S' := MS I J cc ss) 1 rfl ?_
  refine ev_r rfl rfl rfl ?_
  exact ⟨rfl, rfl⟩
theorem sp_isWord_3 (X : AX) (I J : Nat → Nat → Int) (cc ss : Nat) {tx : F1} {n : Nat} (hR : RB I tx n) (a : Nat) (hK : TK I J tx n a) (hw0 : I 135 11 = 0) : Ev X k_X9_isWord (0, [some (vr 135), some (vr 1000103), none], []) (MS I J cc ss) (fun o T => o = .inl (some (vi (if wdF tx n a = 2098 then 1 else 0))) ∧ T = MS I J cc ss) := by
  obtain ⟨ha, hsa, h8, h9, h10, hno⟩ := hK
  obtain ⟨h900, h7, hbf⟩ := hR
  have hen2 := en_le (tx := tx) ha
  refine ev_n (fr' := (4, [some (vr 135), some (vr 1000103), none], [vi (I 135 11)])) (S' := MS I J cc ss) 2 rfl ?_
  refine ev_eqi (hw0) ?_
  show Ev X k_X9_isWord (4, [some (vr 135), some (vr 1000103), none], [vi 0]) (MS I J cc ss) _
  refine ev_n (fr' := (11, [some (vr 135), some (vr 1000103), none], [vi (I 135 10)])) (S' := MS I J cc ss) 3 rfl ?_
  refine ev_eqi (h10) ?_
  show Ev X k_X9_isWord (11, [some (vr 135), some (vr 1000103), none], [vi (kdF tx n a)]) (MS I J cc ss) _
  refine ev_if (c := .ne) (off := 19) rfl (by decide) (fun (g1 : (kdF tx n a) ≠ 0) => ?_) (fun (g1 : ¬ ((kdF tx n a) ≠ 0)) => ?_)
  · show Ev X k_X9_isWord (30, [some (vr 135), some (vr 1000103), none], []) (MS I J cc ss) _
    refine ev_n (fr' := (31, [some (vr 135), some (vr 1000103), none], [vi 0])) (S' := MS I J cc ss) 1 rfl ?_
    refine ev_r rfl rfl rfl ?_
    exact ⟨congrArg (fun z => Sum.inl (some (vi z))) (if_neg (fun q => g1 (kd_0.mpr (by
      have q2 := wd_3.mp q
      rcases Nat.lt_or_ge a n with h | h
      · cases hb : isLe (tx a)
        · have := leF_not (n := n) (Or.inr hb); omega
        · exact ⟨h, rfl⟩
      · have := leF_not (tx := tx) (n := n) (Or.inl h); omega)))).symm, rfl⟩
  · show Ev X k_X9_isWord (14, [some (vr 135), some (vr 1000103), none], []) (MS I J cc ss) _
    refine ev_n (fr' := (18, [some (vr 135), some (vr 1000103), none], [vi (I 135 9)])) (S' := MS I J cc ss) 2 rfl ?_
    refine ev_eqi (h9) ?_
    show Ev X k_X9_isWord (18, [some (vr 135), some (vr 1000103), none], [vi ((enF tx n a) : Int)]) (MS I J cc ss) _
    refine ev_n (fr' := (22, [some (vr 135), some (vr 1000103), none], [vi (I 135 8), vi ((enF tx n a) : Int)])) (S' := MS I J cc ss) 2 rfl ?_
    refine ev_eqi (h8) ?_
    show Ev X k_X9_isWord (22, [some (vr 135), some (vr 1000103), none], [vi (a : Int), vi ((enF tx n a) : Int)]) (MS I J cc ss) _
    refine ev_sub (z := ((enF tx n a) : Int) - (a : Int)) rfl (by omega) (by omega) (by omega) ?_
    show Ev X k_X9_isWord (23, [some (vr 135), some (vr 1000103), none], [vi (((enF tx n a) : Int) - (a : Int))]) (MS I J cc ss) _
    refine ev_n (fr' := (24, [some (vr 135), some (vr 1000103), none], [vr 1000103, vi (((enF tx n a) : Int) - (a : Int))])) (S' := MS I J cc ss) 1 rfl ?_
    refine ev_cv rfl rfl rfl ⟨Nat.le_of_ble_eq_true rfl, Nat.le_of_ble_eq_true rfl⟩ (sp_len_3 X _ _ _ _) ?_
    show Ev X k_X9_isWord (27, [some (vr 135), some (vr 1000103), none], [vi 3, vi (((enF tx n a) : Int) - (a : Int))]) (MS I J cc ss) _
    refine ev_ic (c := .eq) (off := 5) rfl (by decide) (fun (g2 : ((enF tx n a) : Int) - (a : Int) = 3) => ?_) (fun (g2 : ¬ (((enF tx n a) : Int) - (a : Int) = 3)) => ?_)
    · show Ev X k_X9_isWord (32, [some (vr 135), some (vr 1000103), none], []) (MS I J cc ss) _
      have hlt : a + 3 ≤ n := by
        have hk0 := kd_0.mp (Decidable.of_not_not g1)
        have hen := en_0 hk0
        have := leF_le (tx := tx) (n := n) a ha
        omega
      refine ev_n (fr' := (36, [some (vr 135), some (vr 1000103), some (vi 0)], [vr 1000103, vi 0])) (S' := MS I J cc ss) 4 rfl ?_
      refine ev_cv rfl rfl rfl ⟨Nat.le_of_ble_eq_true rfl, Nat.le_of_ble_eq_true rfl⟩ (sp_len_3 X _ _ _ _) ?_
      show Ev X k_X9_isWord (39, [some (vr 135), some (vr 1000103), some (vi 0)], [vi 3, vi 0]) (MS I J cc ss) _
      refine ev_n (fr' := (50, [some (vr 135), some (vr 1000103), some (vi 0)], [vi (I 135 8), vr 139])) (S' := MS I J cc ss) 5 rfl ?_
      refine ev_eqi (h8) ?_
      show Ev X k_X9_isWord (50, [some (vr 135), some (vr 1000103), some (vi 0)], [vi (a : Int), vr 139]) (MS I J cc ss) _
      refine ev_n (fr' := (51, [some (vr 135), some (vr 1000103), some (vi 0)], [vi 0, vi (a : Int), vr 139])) (S' := MS I J cc ss) 1 rfl ?_
      refine ev_add (z := (a : Int)) rfl (by omega) (by omega) (by omega) ?_
      show Ev X k_X9_isWord (52, [some (vr 135), some (vr 1000103), some (vi 0)], [vi (a : Int), vr 139]) (MS I J cc ss) _
      refine ev_iaN (j := a) (z := (tx a)) rfl rfl (by omega) (by omega) ((hbf _ (by omega)).1) ?_
      show Ev X k_X9_isWord (53, [some (vr 135), some (vr 1000103), some (vi 0)], [vi (tx a)]) (MS I J cc ss) _
      refine ev_n (fr' := (55, [some (vr 135), some (vr 1000103), some (vi 0)], [vi 0, vr 1000103, vi (tx a)])) (S' := MS I J cc ss) 2 rfl ?_
      refine ev_cv rfl rfl rfl ⟨Nat.le_of_ble_eq_true rfl, Nat.le_of_ble_eq_true rfl⟩ (sp_ch_3_0 X _ _ _ _) ?_
      show Ev X k_X9_isWord (58, [some (vr 135), some (vr 1000103), some (vi 0)], [vi 98, vi (tx a)]) (MS I J cc ss) _
      refine ev_ic (c := .eq) (off := 5) rfl (by decide) (fun (g3 : (tx a) = 98) => ?_) (fun (g3 : ¬ ((tx a) = 98)) => ?_)
      · show Ev X k_X9_isWord (63, [some (vr 135), some (vr 1000103), some (vi 0)], []) (MS I J cc ss) _
        refine ev_n (fr' := (36, [some (vr 135), some (vr 1000103), some (vi 1)], [vr 1000103, vi 1])) (S' := MS I J cc ss) 4 rfl ?_
        refine ev_cv rfl rfl rfl ⟨Nat.le_of_ble_eq_true rfl, Nat.le_of_ble_eq_true rfl⟩ (sp_len_3 X _ _ _ _) ?_
        show Ev X k_X9_isWord (39, [some (vr 135), some (vr 1000103), some (vi 1)], [vi 3, vi 1]) (MS I J cc ss) _
        refine ev_n (fr' := (50, [some (vr 135), some (vr 1000103), some (vi 1)], [vi (I 135 8), vr 139])) (S' := MS I J cc ss) 5 rfl ?_
        refine ev_eqi (h8) ?_
        show Ev X k_X9_isWord (50, [some (vr 135), some (vr 1000103), some (vi 1)], [vi (a : Int), vr 139]) (MS I J cc ss) _
        refine ev_n (fr' := (51, [some (vr 135), some (vr 1000103), some (vi 1)], [vi 1, vi (a : Int), vr 139])) (S' := MS I J cc ss) 1 rfl ?_
        refine ev_add (z := (a : Int) + 1) rfl (by omega) (by omega) (by omega) ?_
        show Ev X k_X9_isWord (52, [some (vr 135), some (vr 1000103), some (vi 1)], [vi ((a : Int) + 1), vr 139]) (MS I J cc ss) _
        refine ev_iaN (j := a + 1) (z := (tx (a + 1))) rfl rfl (by omega) (by omega) ((hbf _ (by omega)).1) ?_
        show Ev X k_X9_isWord (53, [some (vr 135), some (vr 1000103), some (vi 1)], [vi (tx (a + 1))]) (MS I J cc ss) _
        refine ev_n (fr' := (55, [some (vr 135), some (vr 1000103), some (vi 1)], [vi 1, vr 1000103, vi (tx (a + 1))])) (S' := MS I J cc ss) 2 rfl ?_
        refine ev_cv rfl rfl rfl ⟨Nat.le_of_ble_eq_true rfl, Nat.le_of_ble_eq_true rfl⟩ (sp_ch_3_1 X _ _ _ _) ?_
        show Ev X k_X9_isWord (58, [some (vr 135), some (vr 1000103), some (vi 1)], [vi 97, vi (tx (a + 1))]) (MS I J cc ss) _
        refine ev_ic (c := .eq) (off := 5) rfl (by decide) (fun (g4 : (tx (a + 1)) = 97) => ?_) (fun (g4 : ¬ ((tx (a + 1)) = 97)) => ?_)
        · show Ev X k_X9_isWord (63, [some (vr 135), some (vr 1000103), some (vi 1)], []) (MS I J cc ss) _
          refine ev_n (fr' := (36, [some (vr 135), some (vr 1000103), some (vi 2)], [vr 1000103, vi 2])) (S' := MS I J cc ss) 4 rfl ?_
          refine ev_cv rfl rfl rfl ⟨Nat.le_of_ble_eq_true rfl, Nat.le_of_ble_eq_true rfl⟩ (sp_len_3 X _ _ _ _) ?_
          show Ev X k_X9_isWord (39, [some (vr 135), some (vr 1000103), some (vi 2)], [vi 3, vi 2]) (MS I J cc ss) _
          refine ev_n (fr' := (50, [some (vr 135), some (vr 1000103), some (vi 2)], [vi (I 135 8), vr 139])) (S' := MS I J cc ss) 5 rfl ?_
          refine ev_eqi (h8) ?_
          show Ev X k_X9_isWord (50, [some (vr 135), some (vr 1000103), some (vi 2)], [vi (a : Int), vr 139]) (MS I J cc ss) _
          refine ev_n (fr' := (51, [some (vr 135), some (vr 1000103), some (vi 2)], [vi 2, vi (a : Int), vr 139])) (S' := MS I J cc ss) 1 rfl ?_
          refine ev_add (z := (a : Int) + 2) rfl (by omega) (by omega) (by omega) ?_
          show Ev X k_X9_isWord (52, [some (vr 135), some (vr 1000103), some (vi 2)], [vi ((a : Int) + 2), vr 139]) (MS I J cc ss) _
          refine ev_iaN (j := a + 2) (z := (tx (a + 2))) rfl rfl (by omega) (by omega) ((hbf _ (by omega)).1) ?_
          show Ev X k_X9_isWord (53, [some (vr 135), some (vr 1000103), some (vi 2)], [vi (tx (a + 2))]) (MS I J cc ss) _
          refine ev_n (fr' := (55, [some (vr 135), some (vr 1000103), some (vi 2)], [vi 2, vr 1000103, vi (tx (a + 2))])) (S' := MS I J cc ss) 2 rfl ?_
          refine ev_cv rfl rfl rfl ⟨Nat.le_of_ble_eq_true rfl, Nat.le_of_ble_eq_true rfl⟩ (sp_ch_3_2 X _ _ _ _) ?_
          show Ev X k_X9_isWord (58, [some (vr 135), some (vr 1000103), some (vi 2)], [vi 114, vi (tx (a + 2))]) (MS I J cc ss) _
          refine ev_ic (c := .eq) (off := 5) rfl (by decide) (fun (g5 : (tx (a + 2)) = 114) => ?_) (fun (g5 : ¬ ((tx (a + 2)) = 114)) => ?_)
          · show Ev X k_X9_isWord (63, [some (vr 135), some (vr 1000103), some (vi 2)], []) (MS I J cc ss) _
            refine ev_n (fr' := (36, [some (vr 135), some (vr 1000103), some (vi 3)], [vr 1000103, vi 3])) (S' := MS I J cc ss) 4 rfl ?_
            refine ev_cv rfl rfl rfl ⟨Nat.le_of_ble_eq_true rfl, Nat.le_of_ble_eq_true rfl⟩ (sp_len_3 X _ _ _ _) ?_
            show Ev X k_X9_isWord (39, [some (vr 135), some (vr 1000103), some (vi 3)], [vi 3, vi 3]) (MS I J cc ss) _
            refine ev_n (fr' := (70, [some (vr 135), some (vr 1000103), some (vi 3)], [vi 1])) (S' := MS I J cc ss) 2 rfl ?_
            refine ev_r rfl rfl rfl ?_
            have hk0 := kd_0.mp (Decidable.of_not_not g1)
            have hen := en_0 hk0
            exact ⟨congrArg (fun z => Sum.inl (some (vi z))) (if_pos (wd_3.mpr ⟨by omega, by omega, by omega, by omega⟩)).symm, rfl⟩
          · show Ev X k_X9_isWord (61, [some (vr 135), some (vr 1000103), some (vi 2)], []) (MS I J cc ss) _
            refine ev_n (fr' := (62, [some (vr 135), some (vr 1000103), some (vi 2)], [vi 0])) (S' := MS I J cc ss) 1 rfl ?_
            refine ev_r rfl rfl rfl ?_
            have hk0 := kd_0.mp (Decidable.of_not_not g1)
            have hen := en_0 hk0
            exact ⟨congrArg (fun z => Sum.inl (some (vi z))) (if_neg (fun q => by have q2 := wd_3.mp q; omega)).symm, rfl⟩
        · show Ev X k_X9_isWord (61, [some (vr 135), some (vr 1000103), some (vi 1)], []) (MS I J cc ss) _
          refine ev_n (fr' := (62, [some (vr 135), some (vr 1000103), some (vi 1)], [vi 0])) (S' := MS I J cc ss) 1 rfl ?_
          refine ev_r rfl rfl rfl ?_
          have hk0 := kd_0.mp (Decidable.of_not_not g1)
          have hen := en_0 hk0
          exact ⟨congrArg (fun z => Sum.inl (some (vi z))) (if_neg (fun q => by have q2 := wd_3.mp q; omega)).symm, rfl⟩
      · show Ev X k_X9_isWord (61, [some (vr 135), some (vr 1000103), some (vi 0)], []) (MS I J cc ss) _
        refine ev_n (fr' := (62, [some (vr 135), some (vr 1000103), some (vi 0)], [vi 0])) (S' := MS I J cc ss) 1 rfl ?_
        refine ev_r rfl rfl rfl ?_
        have hk0 := kd_0.mp (Decidable.of_not_not g1)
        have hen := en_0 hk0
        exact ⟨congrArg (fun z => Sum.inl (some (vi z))) (if_neg (fun q => by have q2 := wd_3.mp q; omega)).symm, rfl⟩
    · show Ev X k_X9_isWord (30, [some (vr 135), some (vr 1000103), none], []) (MS I J cc ss) _
      refine ev_n (fr' := (31, [some (vr 135), some (vr 1000103), none], [vi 0])) (S' := MS I J cc ss) 1 rfl ?_
      refine ev_r rfl rfl rfl ?_
      have hk0 := kd_0.mp (Decidable.of_not_not g1)
      have hen := en_0 hk0
      exact ⟨congrArg (fun z => Sum.inl (some (vi z))) (if_neg (fun q => by have q2 := wd_3.mp q; omega)).symm, rfl⟩
theorem sp_isWordE_3 (X : AX) (I J : Nat → Nat → Int) (cc ss : Nat) (hw0 : I 135 11 ≠ 0) : Ev X k_X9_isWord (0, [some (vr 135), some (vr 1000103), none], []) (MS I J cc ss) (fun o T => o = .inl (some (vi 0)) ∧ T = MS I J cc ss) := by
  refine ev_n (fr' := (4, [some (vr 135), some (vr 1000103), none], [vi (I 135 11)])) (S' := MS I J cc ss) 2 rfl ?_
  refine ev_if (c := .ne) (off := 26) rfl (by decide) (fun (g1 : (I 135 11) ≠ 0) => ?_) (fun (g1 : ¬ ((I 135 11) ≠ 0)) => False.elim (g1 hw0))
  show Ev X k_X9_isWord (30, [some (vr 135), some (vr 1000103), none], []) (MS I J cc ss) _
  refine ev_n (fr' := (31, [some (vr 135), some (vr 1000103), none], [vi 0])) (S' := MS I J cc ss) 1 rfl ?_
  refine ev_r rfl rfl rfl ?_
  exact ⟨rfl, rfl⟩
theorem sp_isWord_4 (X : AX) (I J : Nat → Nat → Int) (cc ss : Nat) {tx : F1} {n : Nat} (hR : RB I tx n) (a : Nat) (hK : TK I J tx n a) (hw0 : I 135 11 = 0) : Ev X k_X9_isWord (0, [some (vr 135), some (vr 1000104), none], []) (MS I J cc ss) (fun o T => o = .inl (some (vi (if wdF tx n a = 2552 then 1 else 0))) ∧ T = MS I J cc ss) := by
  obtain ⟨ha, hsa, h8, h9, h10, hno⟩ := hK
  obtain ⟨h900, h7, hbf⟩ := hR
  have hen2 := en_le (tx := tx) ha
  refine ev_n (fr' := (4, [some (vr 135), some (vr 1000104), none], [vi (I 135 11)])) (S' := MS I J cc ss) 2 rfl ?_
  refine ev_eqi (hw0) ?_
  show Ev X k_X9_isWord (4, [some (vr 135), some (vr 1000104), none], [vi 0]) (MS I J cc ss) _
  refine ev_n (fr' := (11, [some (vr 135), some (vr 1000104), none], [vi (I 135 10)])) (S' := MS I J cc ss) 3 rfl ?_
  refine ev_eqi (h10) ?_
  show Ev X k_X9_isWord (11, [some (vr 135), some (vr 1000104), none], [vi (kdF tx n a)]) (MS I J cc ss) _
  refine ev_if (c := .ne) (off := 19) rfl (by decide) (fun (g1 : (kdF tx n a) ≠ 0) => ?_) (fun (g1 : ¬ ((kdF tx n a) ≠ 0)) => ?_)
  · show Ev X k_X9_isWord (30, [some (vr 135), some (vr 1000104), none], []) (MS I J cc ss) _
    refine ev_n (fr' := (31, [some (vr 135), some (vr 1000104), none], [vi 0])) (S' := MS I J cc ss) 1 rfl ?_
    refine ev_r rfl rfl rfl ?_
    exact ⟨congrArg (fun z => Sum.inl (some (vi z))) (if_neg (fun q => g1 (kd_0.mpr (by
      have q2 := wd_4.mp q
      rcases Nat.lt_or_ge a n with h | h
      · cases hb : isLe (tx a)
        · have := leF_not (n := n) (Or.inr hb); omega
        · exact ⟨h, rfl⟩
      · have := leF_not (tx := tx) (n := n) (Or.inl h); omega)))).symm, rfl⟩
  · show Ev X k_X9_isWord (14, [some (vr 135), some (vr 1000104), none], []) (MS I J cc ss) _
    refine ev_n (fr' := (18, [some (vr 135), some (vr 1000104), none], [vi (I 135 9)])) (S' := MS I J cc ss) 2 rfl ?_
    refine ev_eqi (h9) ?_
    show Ev X k_X9_isWord (18, [some (vr 135), some (vr 1000104), none], [vi ((enF tx n a) : Int)]) (MS I J cc ss) _
    refine ev_n (fr' := (22, [some (vr 135), some (vr 1000104), none], [vi (I 135 8), vi ((enF tx n a) : Int)])) (S' := MS I J cc ss) 2 rfl ?_
    refine ev_eqi (h8) ?_
    show Ev X k_X9_isWord (22, [some (vr 135), some (vr 1000104), none], [vi (a : Int), vi ((enF tx n a) : Int)]) (MS I J cc ss) _
    refine ev_sub (z := ((enF tx n a) : Int) - (a : Int)) rfl (by omega) (by omega) (by omega) ?_
    show Ev X k_X9_isWord (23, [some (vr 135), some (vr 1000104), none], [vi (((enF tx n a) : Int) - (a : Int))]) (MS I J cc ss) _
    refine ev_n (fr' := (24, [some (vr 135), some (vr 1000104), none], [vr 1000104, vi (((enF tx n a) : Int) - (a : Int))])) (S' := MS I J cc ss) 1 rfl ?_
    refine ev_cv rfl rfl rfl ⟨Nat.le_of_ble_eq_true rfl, Nat.le_of_ble_eq_true rfl⟩ (sp_len_4 X _ _ _ _) ?_
    show Ev X k_X9_isWord (27, [some (vr 135), some (vr 1000104), none], [vi 3, vi (((enF tx n a) : Int) - (a : Int))]) (MS I J cc ss) _
    refine ev_ic (c := .eq) (off := 5) rfl (by decide) (fun (g2 : ((enF tx n a) : Int) - (a : Int) = 3) => ?_) (fun (g2 : ¬ (((enF tx n a) : Int) - (a : Int) = 3)) => ?_)
    · show Ev X k_X9_isWord (32, [some (vr 135), some (vr 1000104), none], []) (MS I J cc ss) _
      have hlt : a + 3 ≤ n := by
        have hk0 := kd_0.mp (Decidable.of_not_not g1)
        have hen := en_0 hk0
        have := leF_le (tx := tx) (n := n) a ha
        omega
      refine ev_n (fr' := (36, [some (vr 135), some (vr 1000104), some (vi 0)], [vr 1000104, vi 0])) (S' := MS I J cc ss) 4 rfl ?_
      refine ev_cv rfl rfl rfl ⟨Nat.le_of_ble_eq_true rfl, Nat.le_of_ble_eq_true rfl⟩ (sp_len_4 X _ _ _ _) ?_
      show Ev X k_X9_isWord (39, [some (vr 135), some (vr 1000104), some (vi 0)], [vi 3, vi 0]) (MS I J cc ss) _
      refine ev_n (fr' := (50, [some (vr 135), some (vr 1000104), some (vi 0)], [vi (I 135 8), vr 139])) (S' := MS I J cc ss) 5 rfl ?_
      refine ev_eqi (h8) ?_
      show Ev X k_X9_isWord (50, [some (vr 135), some (vr 1000104), some (vi 0)], [vi (a : Int), vr 139]) (MS I J cc ss) _
      refine ev_n (fr' := (51, [some (vr 135), some (vr 1000104), some (vi 0)], [vi 0, vi (a : Int), vr 139])) (S' := MS I J cc ss) 1 rfl ?_
      refine ev_add (z := (a : Int)) rfl (by omega) (by omega) (by omega) ?_
      show Ev X k_X9_isWord (52, [some (vr 135), some (vr 1000104), some (vi 0)], [vi (a : Int), vr 139]) (MS I J cc ss) _
      refine ev_iaN (j := a) (z := (tx a)) rfl rfl (by omega) (by omega) ((hbf _ (by omega)).1) ?_
      show Ev X k_X9_isWord (53, [some (vr 135), some (vr 1000104), some (vi 0)], [vi (tx a)]) (MS I J cc ss) _
      refine ev_n (fr' := (55, [some (vr 135), some (vr 1000104), some (vi 0)], [vi 0, vr 1000104, vi (tx a)])) (S' := MS I J cc ss) 2 rfl ?_
      refine ev_cv rfl rfl rfl ⟨Nat.le_of_ble_eq_true rfl, Nat.le_of_ble_eq_true rfl⟩ (sp_ch_4_0 X _ _ _ _) ?_
      show Ev X k_X9_isWord (58, [some (vr 135), some (vr 1000104), some (vi 0)], [vi 98, vi (tx a)]) (MS I J cc ss) _
      refine ev_ic (c := .eq) (off := 5) rfl (by decide) (fun (g3 : (tx a) = 98) => ?_) (fun (g3 : ¬ ((tx a) = 98)) => ?_)
      · show Ev X k_X9_isWord (63, [some (vr 135), some (vr 1000104), some (vi 0)], []) (MS I J cc ss) _
        refine ev_n (fr' := (36, [some (vr 135), some (vr 1000104), some (vi 1)], [vr 1000104, vi 1])) (S' := MS I J cc ss) 4 rfl ?_
        refine ev_cv rfl rfl rfl ⟨Nat.le_of_ble_eq_true rfl, Nat.le_of_ble_eq_true rfl⟩ (sp_len_4 X _ _ _ _) ?_
        show Ev X k_X9_isWord (39, [some (vr 135), some (vr 1000104), some (vi 1)], [vi 3, vi 1]) (MS I J cc ss) _
        refine ev_n (fr' := (50, [some (vr 135), some (vr 1000104), some (vi 1)], [vi (I 135 8), vr 139])) (S' := MS I J cc ss) 5 rfl ?_
        refine ev_eqi (h8) ?_
        show Ev X k_X9_isWord (50, [some (vr 135), some (vr 1000104), some (vi 1)], [vi (a : Int), vr 139]) (MS I J cc ss) _
        refine ev_n (fr' := (51, [some (vr 135), some (vr 1000104), some (vi 1)], [vi 1, vi (a : Int), vr 139])) (S' := MS I J cc ss) 1 rfl ?_
        refine ev_add (z := (a : Int) + 1) rfl (by omega) (by omega) (by omega) ?_
        show Ev X k_X9_isWord (52, [some (vr 135), some (vr 1000104), some (vi 1)], [vi ((a : Int) + 1), vr 139]) (MS I J cc ss) _
        refine ev_iaN (j := a + 1) (z := (tx (a + 1))) rfl rfl (by omega) (by omega) ((hbf _ (by omega)).1) ?_
        show Ev X k_X9_isWord (53, [some (vr 135), some (vr 1000104), some (vi 1)], [vi (tx (a + 1))]) (MS I J cc ss) _
        refine ev_n (fr' := (55, [some (vr 135), some (vr 1000104), some (vi 1)], [vi 1, vr 1000104, vi (tx (a + 1))])) (S' := MS I J cc ss) 2 rfl ?_
        refine ev_cv rfl rfl rfl ⟨Nat.le_of_ble_eq_true rfl, Nat.le_of_ble_eq_true rfl⟩ (sp_ch_4_1 X _ _ _ _) ?_
        show Ev X k_X9_isWord (58, [some (vr 135), some (vr 1000104), some (vi 1)], [vi 111, vi (tx (a + 1))]) (MS I J cc ss) _
        refine ev_ic (c := .eq) (off := 5) rfl (by decide) (fun (g4 : (tx (a + 1)) = 111) => ?_) (fun (g4 : ¬ ((tx (a + 1)) = 111)) => ?_)
        · show Ev X k_X9_isWord (63, [some (vr 135), some (vr 1000104), some (vi 1)], []) (MS I J cc ss) _
          refine ev_n (fr' := (36, [some (vr 135), some (vr 1000104), some (vi 2)], [vr 1000104, vi 2])) (S' := MS I J cc ss) 4 rfl ?_
          refine ev_cv rfl rfl rfl ⟨Nat.le_of_ble_eq_true rfl, Nat.le_of_ble_eq_true rfl⟩ (sp_len_4 X _ _ _ _) ?_
          show Ev X k_X9_isWord (39, [some (vr 135), some (vr 1000104), some (vi 2)], [vi 3, vi 2]) (MS I J cc ss) _
          refine ev_n (fr' := (50, [some (vr 135), some (vr 1000104), some (vi 2)], [vi (I 135 8), vr 139])) (S' := MS I J cc ss) 5 rfl ?_
          refine ev_eqi (h8) ?_
          show Ev X k_X9_isWord (50, [some (vr 135), some (vr 1000104), some (vi 2)], [vi (a : Int), vr 139]) (MS I J cc ss) _
          refine ev_n (fr' := (51, [some (vr 135), some (vr 1000104), some (vi 2)], [vi 2, vi (a : Int), vr 139])) (S' := MS I J cc ss) 1 rfl ?_
          refine ev_add (z := (a : Int) + 2) rfl (by omega) (by omega) (by omega) ?_
          show Ev X k_X9_isWord (52, [some (vr 135), some (vr 1000104), some (vi 2)], [vi ((a : Int) + 2), vr 139]) (MS I J cc ss) _
          refine ev_iaN (j := a + 2) (z := (tx (a + 2))) rfl rfl (by omega) (by omega) ((hbf _ (by omega)).1) ?_
          show Ev X k_X9_isWord (53, [some (vr 135), some (vr 1000104), some (vi 2)], [vi (tx (a + 2))]) (MS I J cc ss) _
          refine ev_n (fr' := (55, [some (vr 135), some (vr 1000104), some (vi 2)], [vi 2, vr 1000104, vi (tx (a + 2))])) (S' := MS I J cc ss) 2 rfl ?_
          refine ev_cv rfl rfl rfl ⟨Nat.le_of_ble_eq_true rfl, Nat.le_of_ble_eq_true rfl⟩ (sp_ch_4_2 X _ _ _ _) ?_
          show Ev X k_X9_isWord (58, [some (vr 135), some (vr 1000104), some (vi 2)], [vi 120, vi (tx (a + 2))]) (MS I J cc ss) _
          refine ev_ic (c := .eq) (off := 5) rfl (by decide) (fun (g5 : (tx (a + 2)) = 120) => ?_) (fun (g5 : ¬ ((tx (a + 2)) = 120)) => ?_)
          · show Ev X k_X9_isWord (63, [some (vr 135), some (vr 1000104), some (vi 2)], []) (MS I J cc ss) _
            refine ev_n (fr' := (36, [some (vr 135), some (vr 1000104), some (vi 3)], [vr 1000104, vi 3])) (S' := MS I J cc ss) 4 rfl ?_
            refine ev_cv rfl rfl rfl ⟨Nat.le_of_ble_eq_true rfl, Nat.le_of_ble_eq_true rfl⟩ (sp_len_4 X _ _ _ _) ?_
            show Ev X k_X9_isWord (39, [some (vr 135), some (vr 1000104), some (vi 3)], [vi 3, vi 3]) (MS I J cc ss) _
            refine ev_n (fr' := (70, [some (vr 135), some (vr 1000104), some (vi 3)], [vi 1])) (S' := MS I J cc ss) 2 rfl ?_
            refine ev_r rfl rfl rfl ?_
            have hk0 := kd_0.mp (Decidable.of_not_not g1)
            have hen := en_0 hk0
            exact ⟨congrArg (fun z => Sum.inl (some (vi z))) (if_pos (wd_4.mpr ⟨by omega, by omega, by omega, by omega⟩)).symm, rfl⟩
          · show Ev X k_X9_isWord (61, [some (vr 135), some (vr 1000104), some (vi 2)], []) (MS I J cc ss) _
            refine ev_n (fr' := (62, [some (vr 135), some (vr 1000104), some (vi 2)], [vi 0])) (S' := MS I J cc ss) 1 rfl ?_
            refine ev_r rfl rfl rfl ?_
            have hk0 := kd_0.mp (Decidable.of_not_not g1)
            have hen := en_0 hk0
            exact ⟨congrArg (fun z => Sum.inl (some (vi z))) (if_neg (fun q => by have q2 := wd_4.mp q; omega)).symm, rfl⟩
        · show Ev X k_X9_isWord (61, [some (vr 135), some (vr 1000104), some (vi 1)], []) (MS I J cc ss) _
          refine ev_n (fr' := (62, [some (vr 135), some (vr 1000104), some (vi 1)], [vi 0])) (S' := MS I J cc ss) 1 rfl ?_
          refine ev_r rfl rfl rfl ?_
          have hk0 := kd_0.mp (Decidable.of_not_not g1)
          have hen := en_0 hk0
          exact ⟨congrArg (fun z => Sum.inl (some (vi z))) (if_neg (fun q => by have q2 := wd_4.mp q; omega)).symm, rfl⟩
      · show Ev X k_X9_isWord (61, [some (vr 135), some (vr 1000104), some (vi 0)], []) (MS I J cc ss) _
        refine ev_n (fr' := (62, [some (vr 135), some (vr 1000104), some (vi 0)], [vi 0])) (S' := MS I J cc ss) 1 rfl ?_
        refine ev_r rfl rfl rfl ?_
        have hk0 := kd_0.mp (Decidable.of_not_not g1)
        have hen := en_0 hk0
        exact ⟨congrArg (fun z => Sum.inl (some (vi z))) (if_neg (fun q => by have q2 := wd_4.mp q; omega)).symm, rfl⟩
    · show Ev X k_X9_isWord (30, [some (vr 135), some (vr 1000104), none], []) (MS I J cc ss) _
      refine ev_n (fr' := (31, [some (vr 135), some (vr 1000104), none], [vi 0])) (S' := MS I J cc ss) 1 rfl ?_
      refine ev_r rfl rfl rfl ?_
      have hk0 := kd_0.mp (Decidable.of_not_not g1)
      have hen := en_0 hk0
      exact ⟨congrArg (fun z => Sum.inl (some (vi z))) (if_neg (fun q => by have q2 := wd_4.mp q; omega)).symm, rfl⟩
theorem sp_isWordE_4 (X : AX) (I J : Nat → Nat → Int) (cc ss : Nat) (hw0 : I 135 11 ≠ 0) : Ev X k_X9_isWord (0, [some (vr 135), some (vr 1000104), none], []) (MS I J cc ss) (fun o T => o = .inl (some (vi 0)) ∧ T = MS I J cc ss) := by
  refine ev_n (fr' := (4, [some (vr 135), some (vr 1000104), none], [vi (I 135 11)])) (S' := MS I J cc ss) 2 rfl ?_
  refine ev_if (c := .ne) (off := 26) rfl (by decide) (fun (g1 : (I 135 11) ≠ 0) => ?_) (fun (g1 : ¬ ((I 135 11) ≠ 0)) => False.elim (g1 hw0))
  show Ev X k_X9_isWord (30, [some (vr 135), some (vr 1000104), none], []) (MS I J cc ss) _
  refine ev_n (fr' := (31, [some (vr 135), some (vr 1000104), none], [vi 0])) (S' := MS I J cc ss) 1 rfl ?_
  refine ev_r rfl rfl rfl ?_
  exact ⟨rfl, rfl⟩
theorem sp_isWord_5 (X : AX) (I J : Nat → Nat → Int) (cc ss : Nat) {tx : F1} {n : Nat} (hR : RB I tx n) (a : Nat) (hK : TK I J tx n a) (hw0 : I 135 11 = 0) : Ev X k_X9_isWord (0, [some (vr 135), some (vr 1000105), none], []) (MS I J cc ss) (fun o T => o = .inl (some (vi (if wdF tx n a = 402885 then 1 else 0))) ∧ T = MS I J cc ss) := by
  obtain ⟨ha, hsa, h8, h9, h10, hno⟩ := hK
  obtain ⟨h900, h7, hbf⟩ := hR
  have hen2 := en_le (tx := tx) ha
  refine ev_n (fr' := (4, [some (vr 135), some (vr 1000105), none], [vi (I 135 11)])) (S' := MS I J cc ss) 2 rfl ?_
  refine ev_eqi (hw0) ?_
  show Ev X k_X9_isWord (4, [some (vr 135), some (vr 1000105), none], [vi 0]) (MS I J cc ss) _
  refine ev_n (fr' := (11, [some (vr 135), some (vr 1000105), none], [vi (I 135 10)])) (S' := MS I J cc ss) 3 rfl ?_
  refine ev_eqi (h10) ?_
  show Ev X k_X9_isWord (11, [some (vr 135), some (vr 1000105), none], [vi (kdF tx n a)]) (MS I J cc ss) _
  refine ev_if (c := .ne) (off := 19) rfl (by decide) (fun (g1 : (kdF tx n a) ≠ 0) => ?_) (fun (g1 : ¬ ((kdF tx n a) ≠ 0)) => ?_)
  · show Ev X k_X9_isWord (30, [some (vr 135), some (vr 1000105), none], []) (MS I J cc ss) _
    refine ev_n (fr' := (31, [some (vr 135), some (vr 1000105), none], [vi 0])) (S' := MS I J cc ss) 1 rfl ?_
    refine ev_r rfl rfl rfl ?_
    exact ⟨congrArg (fun z => Sum.inl (some (vi z))) (if_neg (fun q => g1 (kd_0.mpr (by
      have q2 := wd_5.mp q
      rcases Nat.lt_or_ge a n with h | h
      · cases hb : isLe (tx a)
        · have := leF_not (n := n) (Or.inr hb); omega
        · exact ⟨h, rfl⟩
      · have := leF_not (tx := tx) (n := n) (Or.inl h); omega)))).symm, rfl⟩
  · show Ev X k_X9_isWord (14, [some (vr 135), some (vr 1000105), none], []) (MS I J cc ss) _
    refine ev_n (fr' := (18, [some (vr 135), some (vr 1000105), none], [vi (I 135 9)])) (S' := MS I J cc ss) 2 rfl ?_
    refine ev_eqi (h9) ?_
    show Ev X k_X9_isWord (18, [some (vr 135), some (vr 1000105), none], [vi ((enF tx n a) : Int)]) (MS I J cc ss) _
    refine ev_n (fr' := (22, [some (vr 135), some (vr 1000105), none], [vi (I 135 8), vi ((enF tx n a) : Int)])) (S' := MS I J cc ss) 2 rfl ?_
    refine ev_eqi (h8) ?_
    show Ev X k_X9_isWord (22, [some (vr 135), some (vr 1000105), none], [vi (a : Int), vi ((enF tx n a) : Int)]) (MS I J cc ss) _
    refine ev_sub (z := ((enF tx n a) : Int) - (a : Int)) rfl (by omega) (by omega) (by omega) ?_
    show Ev X k_X9_isWord (23, [some (vr 135), some (vr 1000105), none], [vi (((enF tx n a) : Int) - (a : Int))]) (MS I J cc ss) _
    refine ev_n (fr' := (24, [some (vr 135), some (vr 1000105), none], [vr 1000105, vi (((enF tx n a) : Int) - (a : Int))])) (S' := MS I J cc ss) 1 rfl ?_
    refine ev_cv rfl rfl rfl ⟨Nat.le_of_ble_eq_true rfl, Nat.le_of_ble_eq_true rfl⟩ (sp_len_5 X _ _ _ _) ?_
    show Ev X k_X9_isWord (27, [some (vr 135), some (vr 1000105), none], [vi 4, vi (((enF tx n a) : Int) - (a : Int))]) (MS I J cc ss) _
    refine ev_ic (c := .eq) (off := 5) rfl (by decide) (fun (g2 : ((enF tx n a) : Int) - (a : Int) = 4) => ?_) (fun (g2 : ¬ (((enF tx n a) : Int) - (a : Int) = 4)) => ?_)
    · show Ev X k_X9_isWord (32, [some (vr 135), some (vr 1000105), none], []) (MS I J cc ss) _
      have hlt : a + 4 ≤ n := by
        have hk0 := kd_0.mp (Decidable.of_not_not g1)
        have hen := en_0 hk0
        have := leF_le (tx := tx) (n := n) a ha
        omega
      refine ev_n (fr' := (36, [some (vr 135), some (vr 1000105), some (vi 0)], [vr 1000105, vi 0])) (S' := MS I J cc ss) 4 rfl ?_
      refine ev_cv rfl rfl rfl ⟨Nat.le_of_ble_eq_true rfl, Nat.le_of_ble_eq_true rfl⟩ (sp_len_5 X _ _ _ _) ?_
      show Ev X k_X9_isWord (39, [some (vr 135), some (vr 1000105), some (vi 0)], [vi 4, vi 0]) (MS I J cc ss) _
      refine ev_n (fr' := (50, [some (vr 135), some (vr 1000105), some (vi 0)], [vi (I 135 8), vr 139])) (S' := MS I J cc ss) 5 rfl ?_
      refine ev_eqi (h8) ?_
      show Ev X k_X9_isWord (50, [some (vr 135), some (vr 1000105), some (vi 0)], [vi (a : Int), vr 139]) (MS I J cc ss) _
      refine ev_n (fr' := (51, [some (vr 135), some (vr 1000105), some (vi 0)], [vi 0, vi (a : Int), vr 139])) (S' := MS I J cc ss) 1 rfl ?_
      refine ev_add (z := (a : Int)) rfl (by omega) (by omega) (by omega) ?_
      show Ev X k_X9_isWord (52, [some (vr 135), some (vr 1000105), some (vi 0)], [vi (a : Int), vr 139]) (MS I J cc ss) _
      refine ev_iaN (j := a) (z := (tx a)) rfl rfl (by omega) (by omega) ((hbf _ (by omega)).1) ?_
      show Ev X k_X9_isWord (53, [some (vr 135), some (vr 1000105), some (vi 0)], [vi (tx a)]) (MS I J cc ss) _
      refine ev_n (fr' := (55, [some (vr 135), some (vr 1000105), some (vi 0)], [vi 0, vr 1000105, vi (tx a)])) (S' := MS I J cc ss) 2 rfl ?_
      refine ev_cv rfl rfl rfl ⟨Nat.le_of_ble_eq_true rfl, Nat.le_of_ble_eq_true rfl⟩ (sp_ch_5_0 X _ _ _ _) ?_
      show Ev X k_X9_isWord (58, [some (vr 135), some (vr 1000105), some (vi 0)], [vi 108, vi (tx a)]) (MS I J cc ss) _
      refine ev_ic (c := .eq) (off := 5) rfl (by decide) (fun (g3 : (tx a) = 108) => ?_) (fun (g3 : ¬ ((tx a) = 108)) => ?_)
      · show Ev X k_X9_isWord (63, [some (vr 135), some (vr 1000105), some (vi 0)], []) (MS I J cc ss) _
        refine ev_n (fr' := (36, [some (vr 135), some (vr 1000105), some (vi 1)], [vr 1000105, vi 1])) (S' := MS I J cc ss) 4 rfl ?_
        refine ev_cv rfl rfl rfl ⟨Nat.le_of_ble_eq_true rfl, Nat.le_of_ble_eq_true rfl⟩ (sp_len_5 X _ _ _ _) ?_
        show Ev X k_X9_isWord (39, [some (vr 135), some (vr 1000105), some (vi 1)], [vi 4, vi 1]) (MS I J cc ss) _
        refine ev_n (fr' := (50, [some (vr 135), some (vr 1000105), some (vi 1)], [vi (I 135 8), vr 139])) (S' := MS I J cc ss) 5 rfl ?_
        refine ev_eqi (h8) ?_
        show Ev X k_X9_isWord (50, [some (vr 135), some (vr 1000105), some (vi 1)], [vi (a : Int), vr 139]) (MS I J cc ss) _
        refine ev_n (fr' := (51, [some (vr 135), some (vr 1000105), some (vi 1)], [vi 1, vi (a : Int), vr 139])) (S' := MS I J cc ss) 1 rfl ?_
        refine ev_add (z := (a : Int) + 1) rfl (by omega) (by omega) (by omega) ?_
        show Ev X k_X9_isWord (52, [some (vr 135), some (vr 1000105), some (vi 1)], [vi ((a : Int) + 1), vr 139]) (MS I J cc ss) _
        refine ev_iaN (j := a + 1) (z := (tx (a + 1))) rfl rfl (by omega) (by omega) ((hbf _ (by omega)).1) ?_
        show Ev X k_X9_isWord (53, [some (vr 135), some (vr 1000105), some (vi 1)], [vi (tx (a + 1))]) (MS I J cc ss) _
        refine ev_n (fr' := (55, [some (vr 135), some (vr 1000105), some (vi 1)], [vi 1, vr 1000105, vi (tx (a + 1))])) (S' := MS I J cc ss) 2 rfl ?_
        refine ev_cv rfl rfl rfl ⟨Nat.le_of_ble_eq_true rfl, Nat.le_of_ble_eq_true rfl⟩ (sp_ch_5_1 X _ _ _ _) ?_
        show Ev X k_X9_isWord (58, [some (vr 135), some (vr 1000105), some (vi 1)], [vi 105, vi (tx (a + 1))]) (MS I J cc ss) _
        refine ev_ic (c := .eq) (off := 5) rfl (by decide) (fun (g4 : (tx (a + 1)) = 105) => ?_) (fun (g4 : ¬ ((tx (a + 1)) = 105)) => ?_)
        · show Ev X k_X9_isWord (63, [some (vr 135), some (vr 1000105), some (vi 1)], []) (MS I J cc ss) _
          refine ev_n (fr' := (36, [some (vr 135), some (vr 1000105), some (vi 2)], [vr 1000105, vi 2])) (S' := MS I J cc ss) 4 rfl ?_
          refine ev_cv rfl rfl rfl ⟨Nat.le_of_ble_eq_true rfl, Nat.le_of_ble_eq_true rfl⟩ (sp_len_5 X _ _ _ _) ?_
          show Ev X k_X9_isWord (39, [some (vr 135), some (vr 1000105), some (vi 2)], [vi 4, vi 2]) (MS I J cc ss) _
          refine ev_n (fr' := (50, [some (vr 135), some (vr 1000105), some (vi 2)], [vi (I 135 8), vr 139])) (S' := MS I J cc ss) 5 rfl ?_
          refine ev_eqi (h8) ?_
          show Ev X k_X9_isWord (50, [some (vr 135), some (vr 1000105), some (vi 2)], [vi (a : Int), vr 139]) (MS I J cc ss) _
          refine ev_n (fr' := (51, [some (vr 135), some (vr 1000105), some (vi 2)], [vi 2, vi (a : Int), vr 139])) (S' := MS I J cc ss) 1 rfl ?_
          refine ev_add (z := (a : Int) + 2) rfl (by omega) (by omega) (by omega) ?_
          show Ev X k_X9_isWord (52, [some (vr 135), some (vr 1000105), some (vi 2)], [vi ((a : Int) + 2), vr 139]) (MS I J cc ss) _
          refine ev_iaN (j := a + 2) (z := (tx (a + 2))) rfl rfl (by omega) (by omega) ((hbf _ (by omega)).1) ?_
          show Ev X k_X9_isWord (53, [some (vr 135), some (vr 1000105), some (vi 2)], [vi (tx (a + 2))]) (MS I J cc ss) _
          refine ev_n (fr' := (55, [some (vr 135), some (vr 1000105), some (vi 2)], [vi 2, vr 1000105, vi (tx (a + 2))])) (S' := MS I J cc ss) 2 rfl ?_
          refine ev_cv rfl rfl rfl ⟨Nat.le_of_ble_eq_true rfl, Nat.le_of_ble_eq_true rfl⟩ (sp_ch_5_2 X _ _ _ _) ?_
          show Ev X k_X9_isWord (58, [some (vr 135), some (vr 1000105), some (vi 2)], [vi 110, vi (tx (a + 2))]) (MS I J cc ss) _
          refine ev_ic (c := .eq) (off := 5) rfl (by decide) (fun (g5 : (tx (a + 2)) = 110) => ?_) (fun (g5 : ¬ ((tx (a + 2)) = 110)) => ?_)
          · show Ev X k_X9_isWord (63, [some (vr 135), some (vr 1000105), some (vi 2)], []) (MS I J cc ss) _
            refine ev_n (fr' := (36, [some (vr 135), some (vr 1000105), some (vi 3)], [vr 1000105, vi 3])) (S' := MS I J cc ss) 4 rfl ?_
            refine ev_cv rfl rfl rfl ⟨Nat.le_of_ble_eq_true rfl, Nat.le_of_ble_eq_true rfl⟩ (sp_len_5 X _ _ _ _) ?_
            show Ev X k_X9_isWord (39, [some (vr 135), some (vr 1000105), some (vi 3)], [vi 4, vi 3]) (MS I J cc ss) _
            refine ev_n (fr' := (50, [some (vr 135), some (vr 1000105), some (vi 3)], [vi (I 135 8), vr 139])) (S' := MS I J cc ss) 5 rfl ?_
            refine ev_eqi (h8) ?_
            show Ev X k_X9_isWord (50, [some (vr 135), some (vr 1000105), some (vi 3)], [vi (a : Int), vr 139]) (MS I J cc ss) _
            refine ev_n (fr' := (51, [some (vr 135), some (vr 1000105), some (vi 3)], [vi 3, vi (a : Int), vr 139])) (S' := MS I J cc ss) 1 rfl ?_
            refine ev_add (z := (a : Int) + 3) rfl (by omega) (by omega) (by omega) ?_
            show Ev X k_X9_isWord (52, [some (vr 135), some (vr 1000105), some (vi 3)], [vi ((a : Int) + 3), vr 139]) (MS I J cc ss) _
            refine ev_iaN (j := a + 3) (z := (tx (a + 3))) rfl rfl (by omega) (by omega) ((hbf _ (by omega)).1) ?_
            show Ev X k_X9_isWord (53, [some (vr 135), some (vr 1000105), some (vi 3)], [vi (tx (a + 3))]) (MS I J cc ss) _
            refine ev_n (fr' := (55, [some (vr 135), some (vr 1000105), some (vi 3)], [vi 3, vr 1000105, vi (tx (a + 3))])) (S' := MS I J cc ss) 2 rfl ?_
            refine ev_cv rfl rfl rfl ⟨Nat.le_of_ble_eq_true rfl, Nat.le_of_ble_eq_true rfl⟩ (sp_ch_5_3 X _ _ _ _) ?_
            show Ev X k_X9_isWord (58, [some (vr 135), some (vr 1000105), some (vi 3)], [vi 101, vi (tx (a + 3))]) (MS I J cc ss) _
            refine ev_ic (c := .eq) (off := 5) rfl (by decide) (fun (g6 : (tx (a + 3)) = 101) => ?_) (fun (g6 : ¬ ((tx (a + 3)) = 101)) => ?_)
            · show Ev X k_X9_isWord (63, [some (vr 135), some (vr 1000105), some (vi 3)], []) (MS I J cc ss) _
              refine ev_n (fr' := (36, [some (vr 135), some (vr 1000105), some (vi 4)], [vr 1000105, vi 4])) (S' := MS I J cc ss) 4 rfl ?_
              refine ev_cv rfl rfl rfl ⟨Nat.le_of_ble_eq_true rfl, Nat.le_of_ble_eq_true rfl⟩ (sp_len_5 X _ _ _ _) ?_
              show Ev X k_X9_isWord (39, [some (vr 135), some (vr 1000105), some (vi 4)], [vi 4, vi 4]) (MS I J cc ss) _
              refine ev_n (fr' := (70, [some (vr 135), some (vr 1000105), some (vi 4)], [vi 1])) (S' := MS I J cc ss) 2 rfl ?_
              refine ev_r rfl rfl rfl ?_
              have hk0 := kd_0.mp (Decidable.of_not_not g1)
              have hen := en_0 hk0
              exact ⟨congrArg (fun z => Sum.inl (some (vi z))) (if_pos (wd_5.mpr ⟨by omega, by omega, by omega, by omega, by omega⟩)).symm, rfl⟩
            · show Ev X k_X9_isWord (61, [some (vr 135), some (vr 1000105), some (vi 3)], []) (MS I J cc ss) _
              refine ev_n (fr' := (62, [some (vr 135), some (vr 1000105), some (vi 3)], [vi 0])) (S' := MS I J cc ss) 1 rfl ?_
              refine ev_r rfl rfl rfl ?_
              have hk0 := kd_0.mp (Decidable.of_not_not g1)
              have hen := en_0 hk0
              exact ⟨congrArg (fun z => Sum.inl (some (vi z))) (if_neg (fun q => by have q2 := wd_5.mp q; omega)).symm, rfl⟩
          · show Ev X k_X9_isWord (61, [some (vr 135), some (vr 1000105), some (vi 2)], []) (MS I J cc ss) _
            refine ev_n (fr' := (62, [some (vr 135), some (vr 1000105), some (vi 2)], [vi 0])) (S' := MS I J cc ss) 1 rfl ?_
            refine ev_r rfl rfl rfl ?_
            have hk0 := kd_0.mp (Decidable.of_not_not g1)
            have hen := en_0 hk0
            exact ⟨congrArg (fun z => Sum.inl (some (vi z))) (if_neg (fun q => by have q2 := wd_5.mp q; omega)).symm, rfl⟩
        · show Ev X k_X9_isWord (61, [some (vr 135), some (vr 1000105), some (vi 1)], []) (MS I J cc ss) _
          refine ev_n (fr' := (62, [some (vr 135), some (vr 1000105), some (vi 1)], [vi 0])) (S' := MS I J cc ss) 1 rfl ?_
          refine ev_r rfl rfl rfl ?_
          have hk0 := kd_0.mp (Decidable.of_not_not g1)
          have hen := en_0 hk0
          exact ⟨congrArg (fun z => Sum.inl (some (vi z))) (if_neg (fun q => by have q2 := wd_5.mp q; omega)).symm, rfl⟩
      · show Ev X k_X9_isWord (61, [some (vr 135), some (vr 1000105), some (vi 0)], []) (MS I J cc ss) _
        refine ev_n (fr' := (62, [some (vr 135), some (vr 1000105), some (vi 0)], [vi 0])) (S' := MS I J cc ss) 1 rfl ?_
        refine ev_r rfl rfl rfl ?_
        have hk0 := kd_0.mp (Decidable.of_not_not g1)
        have hen := en_0 hk0
        exact ⟨congrArg (fun z => Sum.inl (some (vi z))) (if_neg (fun q => by have q2 := wd_5.mp q; omega)).symm, rfl⟩
    · show Ev X k_X9_isWord (30, [some (vr 135), some (vr 1000105), none], []) (MS I J cc ss) _
      refine ev_n (fr' := (31, [some (vr 135), some (vr 1000105), none], [vi 0])) (S' := MS I J cc ss) 1 rfl ?_
      refine ev_r rfl rfl rfl ?_
      have hk0 := kd_0.mp (Decidable.of_not_not g1)
      have hen := en_0 hk0
      exact ⟨congrArg (fun z => Sum.inl (some (vi z))) (if_neg (fun q => by have q2 := wd_5.mp q; omega)).symm, rfl⟩
theorem sp_isWordE_5 (X : AX) (I J : Nat → Nat → Int) (cc ss : Nat) (hw0 : I 135 11 ≠ 0) : Ev X k_X9_isWord (0, [some (vr 135), some (vr 1000105), none], []) (MS I J cc ss) (fun o T => o = .inl (some (vi 0)) ∧ T = MS I J cc ss) := by
  refine ev_n (fr' := (4, [some (vr 135), some (vr 1000105), none], [vi (I 135 11)])) (S' := MS I J cc ss) 2 rfl ?_
  refine ev_if (c := .ne) (off := 26) rfl (by decide) (fun (g1 : (I 135 11) ≠ 0) => ?_) (fun (g1 : ¬ ((I 135 11) ≠ 0)) => False.elim (g1 hw0))
  show Ev X k_X9_isWord (30, [some (vr 135), some (vr 1000105), none], []) (MS I J cc ss) _
  refine ev_n (fr' := (31, [some (vr 135), some (vr 1000105), none], [vi 0])) (S' := MS I J cc ss) 1 rfl ?_
  refine ev_r rfl rfl rfl ?_
  exact ⟨rfl, rfl⟩
theorem sp_isWord_6 (X : AX) (I J : Nat → Nat → Int) (cc ss : Nat) {tx : F1} {n : Nat} (hR : RB I tx n) (a : Nat) (hK : TK I J tx n a) (hw0 : I 135 11 = 0) : Ev X k_X9_isWord (0, [some (vr 135), some (vr 1000106), none], []) (MS I J cc ss) (fun o T => o = .inl (some (vi (if wdF tx n a = 298478 then 1 else 0))) ∧ T = MS I J cc ss) := by
  obtain ⟨ha, hsa, h8, h9, h10, hno⟩ := hK
  obtain ⟨h900, h7, hbf⟩ := hR
  have hen2 := en_le (tx := tx) ha
  refine ev_n (fr' := (4, [some (vr 135), some (vr 1000106), none], [vi (I 135 11)])) (S' := MS I J cc ss) 2 rfl ?_
  refine ev_eqi (hw0) ?_
  show Ev X k_X9_isWord (4, [some (vr 135), some (vr 1000106), none], [vi 0]) (MS I J cc ss) _
  refine ev_n (fr' := (11, [some (vr 135), some (vr 1000106), none], [vi (I 135 10)])) (S' := MS I J cc ss) 3 rfl ?_
  refine ev_eqi (h10) ?_
  show Ev X k_X9_isWord (11, [some (vr 135), some (vr 1000106), none], [vi (kdF tx n a)]) (MS I J cc ss) _
  refine ev_if (c := .ne) (off := 19) rfl (by decide) (fun (g1 : (kdF tx n a) ≠ 0) => ?_) (fun (g1 : ¬ ((kdF tx n a) ≠ 0)) => ?_)
  · show Ev X k_X9_isWord (30, [some (vr 135), some (vr 1000106), none], []) (MS I J cc ss) _
    refine ev_n (fr' := (31, [some (vr 135), some (vr 1000106), none], [vi 0])) (S' := MS I J cc ss) 1 rfl ?_
    refine ev_r rfl rfl rfl ?_
    exact ⟨congrArg (fun z => Sum.inl (some (vi z))) (if_neg (fun q => g1 (kd_0.mpr (by
      have q2 := wd_6.mp q
      rcases Nat.lt_or_ge a n with h | h
      · cases hb : isLe (tx a)
        · have := leF_not (n := n) (Or.inr hb); omega
        · exact ⟨h, rfl⟩
      · have := leF_not (tx := tx) (n := n) (Or.inl h); omega)))).symm, rfl⟩
  · show Ev X k_X9_isWord (14, [some (vr 135), some (vr 1000106), none], []) (MS I J cc ss) _
    refine ev_n (fr' := (18, [some (vr 135), some (vr 1000106), none], [vi (I 135 9)])) (S' := MS I J cc ss) 2 rfl ?_
    refine ev_eqi (h9) ?_
    show Ev X k_X9_isWord (18, [some (vr 135), some (vr 1000106), none], [vi ((enF tx n a) : Int)]) (MS I J cc ss) _
    refine ev_n (fr' := (22, [some (vr 135), some (vr 1000106), none], [vi (I 135 8), vi ((enF tx n a) : Int)])) (S' := MS I J cc ss) 2 rfl ?_
    refine ev_eqi (h8) ?_
    show Ev X k_X9_isWord (22, [some (vr 135), some (vr 1000106), none], [vi (a : Int), vi ((enF tx n a) : Int)]) (MS I J cc ss) _
    refine ev_sub (z := ((enF tx n a) : Int) - (a : Int)) rfl (by omega) (by omega) (by omega) ?_
    show Ev X k_X9_isWord (23, [some (vr 135), some (vr 1000106), none], [vi (((enF tx n a) : Int) - (a : Int))]) (MS I J cc ss) _
    refine ev_n (fr' := (24, [some (vr 135), some (vr 1000106), none], [vr 1000106, vi (((enF tx n a) : Int) - (a : Int))])) (S' := MS I J cc ss) 1 rfl ?_
    refine ev_cv rfl rfl rfl ⟨Nat.le_of_ble_eq_true rfl, Nat.le_of_ble_eq_true rfl⟩ (sp_len_6 X _ _ _ _) ?_
    show Ev X k_X9_isWord (27, [some (vr 135), some (vr 1000106), none], [vi 4, vi (((enF tx n a) : Int) - (a : Int))]) (MS I J cc ss) _
    refine ev_ic (c := .eq) (off := 5) rfl (by decide) (fun (g2 : ((enF tx n a) : Int) - (a : Int) = 4) => ?_) (fun (g2 : ¬ (((enF tx n a) : Int) - (a : Int) = 4)) => ?_)
    · show Ev X k_X9_isWord (32, [some (vr 135), some (vr 1000106), none], []) (MS I J cc ss) _
      have hlt : a + 4 ≤ n := by
        have hk0 := kd_0.mp (Decidable.of_not_not g1)
        have hen := en_0 hk0
        have := leF_le (tx := tx) (n := n) a ha
        omega
      refine ev_n (fr' := (36, [some (vr 135), some (vr 1000106), some (vi 0)], [vr 1000106, vi 0])) (S' := MS I J cc ss) 4 rfl ?_
      refine ev_cv rfl rfl rfl ⟨Nat.le_of_ble_eq_true rfl, Nat.le_of_ble_eq_true rfl⟩ (sp_len_6 X _ _ _ _) ?_
      show Ev X k_X9_isWord (39, [some (vr 135), some (vr 1000106), some (vi 0)], [vi 4, vi 0]) (MS I J cc ss) _
      refine ev_n (fr' := (50, [some (vr 135), some (vr 1000106), some (vi 0)], [vi (I 135 8), vr 139])) (S' := MS I J cc ss) 5 rfl ?_
      refine ev_eqi (h8) ?_
      show Ev X k_X9_isWord (50, [some (vr 135), some (vr 1000106), some (vi 0)], [vi (a : Int), vr 139]) (MS I J cc ss) _
      refine ev_n (fr' := (51, [some (vr 135), some (vr 1000106), some (vi 0)], [vi 0, vi (a : Int), vr 139])) (S' := MS I J cc ss) 1 rfl ?_
      refine ev_add (z := (a : Int)) rfl (by omega) (by omega) (by omega) ?_
      show Ev X k_X9_isWord (52, [some (vr 135), some (vr 1000106), some (vi 0)], [vi (a : Int), vr 139]) (MS I J cc ss) _
      refine ev_iaN (j := a) (z := (tx a)) rfl rfl (by omega) (by omega) ((hbf _ (by omega)).1) ?_
      show Ev X k_X9_isWord (53, [some (vr 135), some (vr 1000106), some (vi 0)], [vi (tx a)]) (MS I J cc ss) _
      refine ev_n (fr' := (55, [some (vr 135), some (vr 1000106), some (vi 0)], [vi 0, vr 1000106, vi (tx a)])) (S' := MS I J cc ss) 2 rfl ?_
      refine ev_cv rfl rfl rfl ⟨Nat.le_of_ble_eq_true rfl, Nat.le_of_ble_eq_true rfl⟩ (sp_ch_6_0 X _ _ _ _) ?_
      show Ev X k_X9_isWord (58, [some (vr 135), some (vr 1000106), some (vi 0)], [vi 105, vi (tx a)]) (MS I J cc ss) _
      refine ev_ic (c := .eq) (off := 5) rfl (by decide) (fun (g3 : (tx a) = 105) => ?_) (fun (g3 : ¬ ((tx a) = 105)) => ?_)
      · show Ev X k_X9_isWord (63, [some (vr 135), some (vr 1000106), some (vi 0)], []) (MS I J cc ss) _
        refine ev_n (fr' := (36, [some (vr 135), some (vr 1000106), some (vi 1)], [vr 1000106, vi 1])) (S' := MS I J cc ss) 4 rfl ?_
        refine ev_cv rfl rfl rfl ⟨Nat.le_of_ble_eq_true rfl, Nat.le_of_ble_eq_true rfl⟩ (sp_len_6 X _ _ _ _) ?_
        show Ev X k_X9_isWord (39, [some (vr 135), some (vr 1000106), some (vi 1)], [vi 4, vi 1]) (MS I J cc ss) _
        refine ev_n (fr' := (50, [some (vr 135), some (vr 1000106), some (vi 1)], [vi (I 135 8), vr 139])) (S' := MS I J cc ss) 5 rfl ?_
        refine ev_eqi (h8) ?_
        show Ev X k_X9_isWord (50, [some (vr 135), some (vr 1000106), some (vi 1)], [vi (a : Int), vr 139]) (MS I J cc ss) _
        refine ev_n (fr' := (51, [some (vr 135), some (vr 1000106), some (vi 1)], [vi 1, vi (a : Int), vr 139])) (S' := MS I J cc ss) 1 rfl ?_
        refine ev_add (z := (a : Int) + 1) rfl (by omega) (by omega) (by omega) ?_
        show Ev X k_X9_isWord (52, [some (vr 135), some (vr 1000106), some (vi 1)], [vi ((a : Int) + 1), vr 139]) (MS I J cc ss) _
        refine ev_iaN (j := a + 1) (z := (tx (a + 1))) rfl rfl (by omega) (by omega) ((hbf _ (by omega)).1) ?_
        show Ev X k_X9_isWord (53, [some (vr 135), some (vr 1000106), some (vi 1)], [vi (tx (a + 1))]) (MS I J cc ss) _
        refine ev_n (fr' := (55, [some (vr 135), some (vr 1000106), some (vi 1)], [vi 1, vr 1000106, vi (tx (a + 1))])) (S' := MS I J cc ss) 2 rfl ?_
        refine ev_cv rfl rfl rfl ⟨Nat.le_of_ble_eq_true rfl, Nat.le_of_ble_eq_true rfl⟩ (sp_ch_6_1 X _ _ _ _) ?_
        show Ev X k_X9_isWord (58, [some (vr 135), some (vr 1000106), some (vi 1)], [vi 99, vi (tx (a + 1))]) (MS I J cc ss) _
        refine ev_ic (c := .eq) (off := 5) rfl (by decide) (fun (g4 : (tx (a + 1)) = 99) => ?_) (fun (g4 : ¬ ((tx (a + 1)) = 99)) => ?_)
        · show Ev X k_X9_isWord (63, [some (vr 135), some (vr 1000106), some (vi 1)], []) (MS I J cc ss) _
          refine ev_n (fr' := (36, [some (vr 135), some (vr 1000106), some (vi 2)], [vr 1000106, vi 2])) (S' := MS I J cc ss) 4 rfl ?_
          refine ev_cv rfl rfl rfl ⟨Nat.le_of_ble_eq_true rfl, Nat.le_of_ble_eq_true rfl⟩ (sp_len_6 X _ _ _ _) ?_
          show Ev X k_X9_isWord (39, [some (vr 135), some (vr 1000106), some (vi 2)], [vi 4, vi 2]) (MS I J cc ss) _
          refine ev_n (fr' := (50, [some (vr 135), some (vr 1000106), some (vi 2)], [vi (I 135 8), vr 139])) (S' := MS I J cc ss) 5 rfl ?_
          refine ev_eqi (h8) ?_
          show Ev X k_X9_isWord (50, [some (vr 135), some (vr 1000106), some (vi 2)], [vi (a : Int), vr 139]) (MS I J cc ss) _
          refine ev_n (fr' := (51, [some (vr 135), some (vr 1000106), some (vi 2)], [vi 2, vi (a : Int), vr 139])) (S' := MS I J cc ss) 1 rfl ?_
          refine ev_add (z := (a : Int) + 2) rfl (by omega) (by omega) (by omega) ?_
          show Ev X k_X9_isWord (52, [some (vr 135), some (vr 1000106), some (vi 2)], [vi ((a : Int) + 2), vr 139]) (MS I J cc ss) _
          refine ev_iaN (j := a + 2) (z := (tx (a + 2))) rfl rfl (by omega) (by omega) ((hbf _ (by omega)).1) ?_
          show Ev X k_X9_isWord (53, [some (vr 135), some (vr 1000106), some (vi 2)], [vi (tx (a + 2))]) (MS I J cc ss) _
          refine ev_n (fr' := (55, [some (vr 135), some (vr 1000106), some (vi 2)], [vi 2, vr 1000106, vi (tx (a + 2))])) (S' := MS I J cc ss) 2 rfl ?_
          refine ev_cv rfl rfl rfl ⟨Nat.le_of_ble_eq_true rfl, Nat.le_of_ble_eq_true rfl⟩ (sp_ch_6_2 X _ _ _ _) ?_
          show Ev X k_X9_isWord (58, [some (vr 135), some (vr 1000106), some (vi 2)], [vi 111, vi (tx (a + 2))]) (MS I J cc ss) _
          refine ev_ic (c := .eq) (off := 5) rfl (by decide) (fun (g5 : (tx (a + 2)) = 111) => ?_) (fun (g5 : ¬ ((tx (a + 2)) = 111)) => ?_)
          · show Ev X k_X9_isWord (63, [some (vr 135), some (vr 1000106), some (vi 2)], []) (MS I J cc ss) _
            refine ev_n (fr' := (36, [some (vr 135), some (vr 1000106), some (vi 3)], [vr 1000106, vi 3])) (S' := MS I J cc ss) 4 rfl ?_
            refine ev_cv rfl rfl rfl ⟨Nat.le_of_ble_eq_true rfl, Nat.le_of_ble_eq_true rfl⟩ (sp_len_6 X _ _ _ _) ?_
            show Ev X k_X9_isWord (39, [some (vr 135), some (vr 1000106), some (vi 3)], [vi 4, vi 3]) (MS I J cc ss) _
            refine ev_n (fr' := (50, [some (vr 135), some (vr 1000106), some (vi 3)], [vi (I 135 8), vr 139])) (S' := MS I J cc ss) 5 rfl ?_
            refine ev_eqi (h8) ?_
            show Ev X k_X9_isWord (50, [some (vr 135), some (vr 1000106), some (vi 3)], [vi (a : Int), vr 139]) (MS I J cc ss) _
            refine ev_n (fr' := (51, [some (vr 135), some (vr 1000106), some (vi 3)], [vi 3, vi (a : Int), vr 139])) (S' := MS I J cc ss) 1 rfl ?_
            refine ev_add (z := (a : Int) + 3) rfl (by omega) (by omega) (by omega) ?_
            show Ev X k_X9_isWord (52, [some (vr 135), some (vr 1000106), some (vi 3)], [vi ((a : Int) + 3), vr 139]) (MS I J cc ss) _
            refine ev_iaN (j := a + 3) (z := (tx (a + 3))) rfl rfl (by omega) (by omega) ((hbf _ (by omega)).1) ?_
            show Ev X k_X9_isWord (53, [some (vr 135), some (vr 1000106), some (vi 3)], [vi (tx (a + 3))]) (MS I J cc ss) _
            refine ev_n (fr' := (55, [some (vr 135), some (vr 1000106), some (vi 3)], [vi 3, vr 1000106, vi (tx (a + 3))])) (S' := MS I J cc ss) 2 rfl ?_
            refine ev_cv rfl rfl rfl ⟨Nat.le_of_ble_eq_true rfl, Nat.le_of_ble_eq_true rfl⟩ (sp_ch_6_3 X _ _ _ _) ?_
            show Ev X k_X9_isWord (58, [some (vr 135), some (vr 1000106), some (vi 3)], [vi 110, vi (tx (a + 3))]) (MS I J cc ss) _
            refine ev_ic (c := .eq) (off := 5) rfl (by decide) (fun (g6 : (tx (a + 3)) = 110) => ?_) (fun (g6 : ¬ ((tx (a + 3)) = 110)) => ?_)
            · show Ev X k_X9_isWord (63, [some (vr 135), some (vr 1000106), some (vi 3)], []) (MS I J cc ss) _
              refine ev_n (fr' := (36, [some (vr 135), some (vr 1000106), some (vi 4)], [vr 1000106, vi 4])) (S' := MS I J cc ss) 4 rfl ?_
              refine ev_cv rfl rfl rfl ⟨Nat.le_of_ble_eq_true rfl, Nat.le_of_ble_eq_true rfl⟩ (sp_len_6 X _ _ _ _) ?_
              show Ev X k_X9_isWord (39, [some (vr 135), some (vr 1000106), some (vi 4)], [vi 4, vi 4]) (MS I J cc ss) _
              refine ev_n (fr' := (70, [some (vr 135), some (vr 1000106), some (vi 4)], [vi 1])) (S' := MS I J cc ss) 2 rfl ?_
              refine ev_r rfl rfl rfl ?_
              have hk0 := kd_0.mp (Decidable.of_not_not g1)
              have hen := en_0 hk0
              exact ⟨congrArg (fun z => Sum.inl (some (vi z))) (if_pos (wd_6.mpr ⟨by omega, by omega, by omega, by omega, by omega⟩)).symm, rfl⟩
            · show Ev X k_X9_isWord (61, [some (vr 135), some (vr 1000106), some (vi 3)], []) (MS I J cc ss) _
              refine ev_n (fr' := (62, [some (vr 135), some (vr 1000106), some (vi 3)], [vi 0])) (S' := MS I J cc ss) 1 rfl ?_
              refine ev_r rfl rfl rfl ?_
              have hk0 := kd_0.mp (Decidable.of_not_not g1)
              have hen := en_0 hk0
              exact ⟨congrArg (fun z => Sum.inl (some (vi z))) (if_neg (fun q => by have q2 := wd_6.mp q; omega)).symm, rfl⟩
          · show Ev X k_X9_isWord (61, [some (vr 135), some (vr 1000106), some (vi 2)], []) (MS I J cc ss) _
            refine ev_n (fr' := (62, [some (vr 135), some (vr 1000106), some (vi 2)], [vi 0])) (S' := MS I J cc ss) 1 rfl ?_
            refine ev_r rfl rfl rfl ?_
            have hk0 := kd_0.mp (Decidable.of_not_not g1)
            have hen := en_0 hk0
            exact ⟨congrArg (fun z => Sum.inl (some (vi z))) (if_neg (fun q => by have q2 := wd_6.mp q; omega)).symm, rfl⟩
        · show Ev X k_X9_isWord (61, [some (vr 135), some (vr 1000106), some (vi 1)], []) (MS I J cc ss) _
          refine ev_n (fr' := (62, [some (vr 135), some (vr 1000106), some (vi 1)], [vi 0])) (S' := MS I J cc ss) 1 rfl ?_
          refine ev_r rfl rfl rfl ?_
          have hk0 := kd_0.mp (Decidable.of_not_not g1)
          have hen := en_0 hk0
          exact ⟨congrArg (fun z => Sum.inl (some (vi z))) (if_neg (fun q => by have q2 := wd_6.mp q; omega)).symm, rfl⟩
      · show Ev X k_X9_isWord (61, [some (vr 135), some (vr 1000106), some (vi 0)], []) (MS I J cc ss) _
        refine ev_n (fr' := (62, [some (vr 135), some (vr 1000106), some (vi 0)], [vi 0])) (S' := MS I J cc ss) 1 rfl ?_
        refine ev_r rfl rfl rfl ?_
        have hk0 := kd_0.mp (Decidable.of_not_not g1)
        have hen := en_0 hk0
        exact ⟨congrArg (fun z => Sum.inl (some (vi z))) (if_neg (fun q => by have q2 := wd_6.mp q; omega)).symm, rfl⟩
    · show Ev X k_X9_isWord (30, [some (vr 135), some (vr 1000106), none], []) (MS I J cc ss) _
      refine ev_n (fr' := (31, [some (vr 135), some (vr 1000106), none], [vi 0])) (S' := MS I J cc ss) 1 rfl ?_
      refine ev_r rfl rfl rfl ?_
      have hk0 := kd_0.mp (Decidable.of_not_not g1)
      have hen := en_0 hk0
      exact ⟨congrArg (fun z => Sum.inl (some (vi z))) (if_neg (fun q => by have q2 := wd_6.mp q; omega)).symm, rfl⟩
theorem sp_isWordE_6 (X : AX) (I J : Nat → Nat → Int) (cc ss : Nat) (hw0 : I 135 11 ≠ 0) : Ev X k_X9_isWord (0, [some (vr 135), some (vr 1000106), none], []) (MS I J cc ss) (fun o T => o = .inl (some (vi 0)) ∧ T = MS I J cc ss) := by
  refine ev_n (fr' := (4, [some (vr 135), some (vr 1000106), none], [vi (I 135 11)])) (S' := MS I J cc ss) 2 rfl ?_
  refine ev_if (c := .ne) (off := 26) rfl (by decide) (fun (g1 : (I 135 11) ≠ 0) => ?_) (fun (g1 : ¬ ((I 135 11) ≠ 0)) => False.elim (g1 hw0))
  show Ev X k_X9_isWord (30, [some (vr 135), some (vr 1000106), none], []) (MS I J cc ss) _
  refine ev_n (fr' := (31, [some (vr 135), some (vr 1000106), none], [vi 0])) (S' := MS I J cc ss) 1 rfl ?_
  refine ev_r rfl rfl rfl ?_
  exact ⟨rfl, rfl⟩
theorem sp_isWord_7 (X : AX) (I J : Nat → Nat → Int) (cc ss : Nat) {tx : F1} {n : Nat} (hR : RB I tx n) (a : Nat) (hK : TK I J tx n a) (hw0 : I 135 11 = 0) : Ev X k_X9_isWord (0, [some (vr 135), some (vr 1000107), none], []) (MS I J cc ss) (fun o T => o = .inl (some (vi (if wdF tx n a = 52 then 1 else 0))) ∧ T = MS I J cc ss) := by
  obtain ⟨ha, hsa, h8, h9, h10, hno⟩ := hK
  obtain ⟨h900, h7, hbf⟩ := hR
  have hen2 := en_le (tx := tx) ha
  refine ev_n (fr' := (4, [some (vr 135), some (vr 1000107), none], [vi (I 135 11)])) (S' := MS I J cc ss) 2 rfl ?_
  refine ev_eqi (hw0) ?_
  show Ev X k_X9_isWord (4, [some (vr 135), some (vr 1000107), none], [vi 0]) (MS I J cc ss) _
  refine ev_n (fr' := (11, [some (vr 135), some (vr 1000107), none], [vi (I 135 10)])) (S' := MS I J cc ss) 3 rfl ?_
  refine ev_eqi (h10) ?_
  show Ev X k_X9_isWord (11, [some (vr 135), some (vr 1000107), none], [vi (kdF tx n a)]) (MS I J cc ss) _
  refine ev_if (c := .ne) (off := 19) rfl (by decide) (fun (g1 : (kdF tx n a) ≠ 0) => ?_) (fun (g1 : ¬ ((kdF tx n a) ≠ 0)) => ?_)
  · show Ev X k_X9_isWord (30, [some (vr 135), some (vr 1000107), none], []) (MS I J cc ss) _
    refine ev_n (fr' := (31, [some (vr 135), some (vr 1000107), none], [vi 0])) (S' := MS I J cc ss) 1 rfl ?_
    refine ev_r rfl rfl rfl ?_
    exact ⟨congrArg (fun z => Sum.inl (some (vi z))) (if_neg (fun q => g1 (kd_0.mpr (by
      have q2 := wd_7.mp q
      rcases Nat.lt_or_ge a n with h | h
      · cases hb : isLe (tx a)
        · have := leF_not (n := n) (Or.inr hb); omega
        · exact ⟨h, rfl⟩
      · have := leF_not (tx := tx) (n := n) (Or.inl h); omega)))).symm, rfl⟩
  · show Ev X k_X9_isWord (14, [some (vr 135), some (vr 1000107), none], []) (MS I J cc ss) _
    refine ev_n (fr' := (18, [some (vr 135), some (vr 1000107), none], [vi (I 135 9)])) (S' := MS I J cc ss) 2 rfl ?_
    refine ev_eqi (h9) ?_
    show Ev X k_X9_isWord (18, [some (vr 135), some (vr 1000107), none], [vi ((enF tx n a) : Int)]) (MS I J cc ss) _
    refine ev_n (fr' := (22, [some (vr 135), some (vr 1000107), none], [vi (I 135 8), vi ((enF tx n a) : Int)])) (S' := MS I J cc ss) 2 rfl ?_
    refine ev_eqi (h8) ?_
    show Ev X k_X9_isWord (22, [some (vr 135), some (vr 1000107), none], [vi (a : Int), vi ((enF tx n a) : Int)]) (MS I J cc ss) _
    refine ev_sub (z := ((enF tx n a) : Int) - (a : Int)) rfl (by omega) (by omega) (by omega) ?_
    show Ev X k_X9_isWord (23, [some (vr 135), some (vr 1000107), none], [vi (((enF tx n a) : Int) - (a : Int))]) (MS I J cc ss) _
    refine ev_n (fr' := (24, [some (vr 135), some (vr 1000107), none], [vr 1000107, vi (((enF tx n a) : Int) - (a : Int))])) (S' := MS I J cc ss) 1 rfl ?_
    refine ev_cv rfl rfl rfl ⟨Nat.le_of_ble_eq_true rfl, Nat.le_of_ble_eq_true rfl⟩ (sp_len_7 X _ _ _ _) ?_
    show Ev X k_X9_isWord (27, [some (vr 135), some (vr 1000107), none], [vi 2, vi (((enF tx n a) : Int) - (a : Int))]) (MS I J cc ss) _
    refine ev_ic (c := .eq) (off := 5) rfl (by decide) (fun (g2 : ((enF tx n a) : Int) - (a : Int) = 2) => ?_) (fun (g2 : ¬ (((enF tx n a) : Int) - (a : Int) = 2)) => ?_)
    · show Ev X k_X9_isWord (32, [some (vr 135), some (vr 1000107), none], []) (MS I J cc ss) _
      have hlt : a + 2 ≤ n := by
        have hk0 := kd_0.mp (Decidable.of_not_not g1)
        have hen := en_0 hk0
        have := leF_le (tx := tx) (n := n) a ha
        omega
      refine ev_n (fr' := (36, [some (vr 135), some (vr 1000107), some (vi 0)], [vr 1000107, vi 0])) (S' := MS I J cc ss) 4 rfl ?_
      refine ev_cv rfl rfl rfl ⟨Nat.le_of_ble_eq_true rfl, Nat.le_of_ble_eq_true rfl⟩ (sp_len_7 X _ _ _ _) ?_
      show Ev X k_X9_isWord (39, [some (vr 135), some (vr 1000107), some (vi 0)], [vi 2, vi 0]) (MS I J cc ss) _
      refine ev_n (fr' := (50, [some (vr 135), some (vr 1000107), some (vi 0)], [vi (I 135 8), vr 139])) (S' := MS I J cc ss) 5 rfl ?_
      refine ev_eqi (h8) ?_
      show Ev X k_X9_isWord (50, [some (vr 135), some (vr 1000107), some (vi 0)], [vi (a : Int), vr 139]) (MS I J cc ss) _
      refine ev_n (fr' := (51, [some (vr 135), some (vr 1000107), some (vi 0)], [vi 0, vi (a : Int), vr 139])) (S' := MS I J cc ss) 1 rfl ?_
      refine ev_add (z := (a : Int)) rfl (by omega) (by omega) (by omega) ?_
      show Ev X k_X9_isWord (52, [some (vr 135), some (vr 1000107), some (vi 0)], [vi (a : Int), vr 139]) (MS I J cc ss) _
      refine ev_iaN (j := a) (z := (tx a)) rfl rfl (by omega) (by omega) ((hbf _ (by omega)).1) ?_
      show Ev X k_X9_isWord (53, [some (vr 135), some (vr 1000107), some (vi 0)], [vi (tx a)]) (MS I J cc ss) _
      refine ev_n (fr' := (55, [some (vr 135), some (vr 1000107), some (vi 0)], [vi 0, vr 1000107, vi (tx a)])) (S' := MS I J cc ss) 2 rfl ?_
      refine ev_cv rfl rfl rfl ⟨Nat.le_of_ble_eq_true rfl, Nat.le_of_ble_eq_true rfl⟩ (sp_ch_7_0 X _ _ _ _) ?_
      show Ev X k_X9_isWord (58, [some (vr 135), some (vr 1000107), some (vi 0)], [vi 97, vi (tx a)]) (MS I J cc ss) _
      refine ev_ic (c := .eq) (off := 5) rfl (by decide) (fun (g3 : (tx a) = 97) => ?_) (fun (g3 : ¬ ((tx a) = 97)) => ?_)
      · show Ev X k_X9_isWord (63, [some (vr 135), some (vr 1000107), some (vi 0)], []) (MS I J cc ss) _
        refine ev_n (fr' := (36, [some (vr 135), some (vr 1000107), some (vi 1)], [vr 1000107, vi 1])) (S' := MS I J cc ss) 4 rfl ?_
        refine ev_cv rfl rfl rfl ⟨Nat.le_of_ble_eq_true rfl, Nat.le_of_ble_eq_true rfl⟩ (sp_len_7 X _ _ _ _) ?_
        show Ev X k_X9_isWord (39, [some (vr 135), some (vr 1000107), some (vi 1)], [vi 2, vi 1]) (MS I J cc ss) _
        refine ev_n (fr' := (50, [some (vr 135), some (vr 1000107), some (vi 1)], [vi (I 135 8), vr 139])) (S' := MS I J cc ss) 5 rfl ?_
        refine ev_eqi (h8) ?_
        show Ev X k_X9_isWord (50, [some (vr 135), some (vr 1000107), some (vi 1)], [vi (a : Int), vr 139]) (MS I J cc ss) _
        refine ev_n (fr' := (51, [some (vr 135), some (vr 1000107), some (vi 1)], [vi 1, vi (a : Int), vr 139])) (S' := MS I J cc ss) 1 rfl ?_
        refine ev_add (z := (a : Int) + 1) rfl (by omega) (by omega) (by omega) ?_
        show Ev X k_X9_isWord (52, [some (vr 135), some (vr 1000107), some (vi 1)], [vi ((a : Int) + 1), vr 139]) (MS I J cc ss) _
        refine ev_iaN (j := a + 1) (z := (tx (a + 1))) rfl rfl (by omega) (by omega) ((hbf _ (by omega)).1) ?_
        show Ev X k_X9_isWord (53, [some (vr 135), some (vr 1000107), some (vi 1)], [vi (tx (a + 1))]) (MS I J cc ss) _
        refine ev_n (fr' := (55, [some (vr 135), some (vr 1000107), some (vi 1)], [vi 1, vr 1000107, vi (tx (a + 1))])) (S' := MS I J cc ss) 2 rfl ?_
        refine ev_cv rfl rfl rfl ⟨Nat.le_of_ble_eq_true rfl, Nat.le_of_ble_eq_true rfl⟩ (sp_ch_7_1 X _ _ _ _) ?_
        show Ev X k_X9_isWord (58, [some (vr 135), some (vr 1000107), some (vi 1)], [vi 116, vi (tx (a + 1))]) (MS I J cc ss) _
        refine ev_ic (c := .eq) (off := 5) rfl (by decide) (fun (g4 : (tx (a + 1)) = 116) => ?_) (fun (g4 : ¬ ((tx (a + 1)) = 116)) => ?_)
        · show Ev X k_X9_isWord (63, [some (vr 135), some (vr 1000107), some (vi 1)], []) (MS I J cc ss) _
          refine ev_n (fr' := (36, [some (vr 135), some (vr 1000107), some (vi 2)], [vr 1000107, vi 2])) (S' := MS I J cc ss) 4 rfl ?_
          refine ev_cv rfl rfl rfl ⟨Nat.le_of_ble_eq_true rfl, Nat.le_of_ble_eq_true rfl⟩ (sp_len_7 X _ _ _ _) ?_
          show Ev X k_X9_isWord (39, [some (vr 135), some (vr 1000107), some (vi 2)], [vi 2, vi 2]) (MS I J cc ss) _
          refine ev_n (fr' := (70, [some (vr 135), some (vr 1000107), some (vi 2)], [vi 1])) (S' := MS I J cc ss) 2 rfl ?_
          refine ev_r rfl rfl rfl ?_
          have hk0 := kd_0.mp (Decidable.of_not_not g1)
          have hen := en_0 hk0
          exact ⟨congrArg (fun z => Sum.inl (some (vi z))) (if_pos (wd_7.mpr ⟨by omega, by omega, by omega⟩)).symm, rfl⟩
        · show Ev X k_X9_isWord (61, [some (vr 135), some (vr 1000107), some (vi 1)], []) (MS I J cc ss) _
          refine ev_n (fr' := (62, [some (vr 135), some (vr 1000107), some (vi 1)], [vi 0])) (S' := MS I J cc ss) 1 rfl ?_
          refine ev_r rfl rfl rfl ?_
          have hk0 := kd_0.mp (Decidable.of_not_not g1)
          have hen := en_0 hk0
          exact ⟨congrArg (fun z => Sum.inl (some (vi z))) (if_neg (fun q => by have q2 := wd_7.mp q; omega)).symm, rfl⟩
      · show Ev X k_X9_isWord (61, [some (vr 135), some (vr 1000107), some (vi 0)], []) (MS I J cc ss) _
        refine ev_n (fr' := (62, [some (vr 135), some (vr 1000107), some (vi 0)], [vi 0])) (S' := MS I J cc ss) 1 rfl ?_
        refine ev_r rfl rfl rfl ?_
        have hk0 := kd_0.mp (Decidable.of_not_not g1)
        have hen := en_0 hk0
        exact ⟨congrArg (fun z => Sum.inl (some (vi z))) (if_neg (fun q => by have q2 := wd_7.mp q; omega)).symm, rfl⟩
    · show Ev X k_X9_isWord (30, [some (vr 135), some (vr 1000107), none], []) (MS I J cc ss) _
      refine ev_n (fr' := (31, [some (vr 135), some (vr 1000107), none], [vi 0])) (S' := MS I J cc ss) 1 rfl ?_
      refine ev_r rfl rfl rfl ?_
      have hk0 := kd_0.mp (Decidable.of_not_not g1)
      have hen := en_0 hk0
      exact ⟨congrArg (fun z => Sum.inl (some (vi z))) (if_neg (fun q => by have q2 := wd_7.mp q; omega)).symm, rfl⟩
theorem sp_isWordE_7 (X : AX) (I J : Nat → Nat → Int) (cc ss : Nat) (hw0 : I 135 11 ≠ 0) : Ev X k_X9_isWord (0, [some (vr 135), some (vr 1000107), none], []) (MS I J cc ss) (fun o T => o = .inl (some (vi 0)) ∧ T = MS I J cc ss) := by
  refine ev_n (fr' := (4, [some (vr 135), some (vr 1000107), none], [vi (I 135 11)])) (S' := MS I J cc ss) 2 rfl ?_
  refine ev_if (c := .ne) (off := 26) rfl (by decide) (fun (g1 : (I 135 11) ≠ 0) => ?_) (fun (g1 : ¬ ((I 135 11) ≠ 0)) => False.elim (g1 hw0))
  show Ev X k_X9_isWord (30, [some (vr 135), some (vr 1000107), none], []) (MS I J cc ss) _
  refine ev_n (fr' := (31, [some (vr 135), some (vr 1000107), none], [vi 0])) (S' := MS I J cc ss) 1 rfl ?_
  refine ev_r rfl rfl rfl ?_
  exact ⟨rfl, rfl⟩
