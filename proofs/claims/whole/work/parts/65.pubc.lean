/-! PUBLIC QUESTIONS, class, without a drawing (printed by gen/g65.py) -/
theorem sp_reqI1 (X : AX) (S : AS) : Ev X k_X8_requireIndex (0, [some (vi 1)], []) (S) (fun o T => o = .inl none ∧ T = S) := by
  refine ev_n (fr' := (15, [some (vi 1)], [])) (S' := S) 2 rfl ?_
  refine ev_r rfl rfl rfl ?_
  exact ⟨rfl, rfl⟩
theorem sp_reqI0 (X : AX) (I J : Nat → Nat → Int) (cc ss : Nat) : Ev X k_X8_requireIndex (0, [some (vi 0)], []) (MS I J cc ss) (fun o T => o = .inr 2 ∧ T = MS I J (cc + 1) (ss + 6)) := by
  refine ev_n (fr' := (4, [some (vi 0)], [])) (S' := MS I J cc ss) 2 rfl ?_
  refine ev_r rfl rfl rfl ?_
  exact ⟨rfl, rfl⟩
theorem sp_reqA1 (X : AX) (S : AS) : Ev X k_X8_requireArgument (0, [some (vi 1)], []) (S) (fun o T => o = .inl none ∧ T = S) := by
  refine ev_n (fr' := (15, [some (vi 1)], [])) (S' := S) 2 rfl ?_
  refine ev_r rfl rfl rfl ?_
  exact ⟨rfl, rfl⟩
theorem sp_reqA0 (X : AX) (I J : Nat → Nat → Int) (cc ss : Nat) : Ev X k_X8_requireArgument (0, [some (vi 0)], []) (MS I J cc ss) (fun o T => o = .inr 1 ∧ T = MS I J (cc + 1) (ss + 6)) := by
  refine ev_n (fr' := (4, [some (vi 0)], [])) (S' := MS I J cc ss) 2 rfl ?_
  refine ev_r rfl rfl rfl ?_
  exact ⟨rfl, rfl⟩
theorem sp_reqS1 (X : AX) (S : AS) : Ev X k_X8_requireState (0, [some (vi 1)], []) (S) (fun o T => o = .inl none ∧ T = S) := by
  refine ev_n (fr' := (15, [some (vi 1)], [])) (S' := S) 2 rfl ?_
  refine ev_r rfl rfl rfl ?_
  exact ⟨rfl, rfl⟩
theorem sp_reqS0 (X : AX) (I J : Nat → Nat → Int) (cc ss : Nat) : Ev X k_X8_requireState (0, [some (vi 0)], []) (MS I J cc ss) (fun o T => o = .inr 0 ∧ T = MS I J (cc + 1) (ss + 6)) := by
  refine ev_n (fr' := (4, [some (vi 0)], [])) (S' := MS I J cc ss) 2 rfl ?_
  refine ev_r rfl rfl rfl ?_
  exact ⟨rfl, rfl⟩
theorem pb_count_x (X : AX) (I J : Nat → Nat → Int) (cc ss : Nat) {g : F1} (z : Int) (hS : SRep I 1 g) (hP : PRep I J 5 g) (hI : IRep I J 9 g) (hws : WS g) (hwp : WP g) (hwi : WI g) (h : ¬ (0 ≤ z ∧ z ≤ 5)) : Ev X k_X8_count (0, [some (vr 0), some (vi z)], []) (MS I J cc ss) (fun o T => o = .inr 1 ∧ T = MS I J (cc + 1) (ss + 6)) := by
  refine ev_n (fr' := (3, [some (vr 0), some (vi z)], [vi 5, vi 0, vi z])) (S' := MS I J cc ss) 3 rfl ?_
  refine ev_cv rfl rfl rfl ⟨Nat.le_of_ble_eq_true rfl, Nat.le_of_ble_eq_true rfl⟩ (sp_within X _ z 0 5 ) ?_
  show Ev X k_X8_count (6, [some (vr 0), some (vi z)], [vi (if 0 ≤ z ∧ z ≤ 5 then 1 else 0)]) (MS I J cc ss) _
  refine ev_s0 _ (by omega) ?_
  show Ev X k_X8_count (6, [some (vr 0), some (vi z)], [vi 0]) (MS I J cc ss) _
  refine ev_cx rfl rfl rfl ⟨Nat.le_of_ble_eq_true rfl, Nat.le_of_ble_eq_true rfl⟩ (sp_reqA0 X _ _ _ _) rfl ?_
  exact ⟨rfl, rfl⟩
theorem pb_count_0 (X : AX) (I J : Nat → Nat → Int) (cc ss : Nat) {g : F1}  (hS : SRep I 1 g) (hP : PRep I J 5 g) (hI : IRep I J 9 g) (hws : WS g) (hwp : WP g) (hwi : WI g)  : Ev X k_X8_count (0, [some (vr 0), some (vi 0)], []) (MS I J cc ss) (PV cc ss (some (vi (g 0))) (fun I' J' => J' = J ∧ scrC I I')) := by
  refine ev_n (fr' := (3, [some (vr 0), some (vi 0)], [vi 5, vi 0, vi 0])) (S' := MS I J cc ss) 3 rfl ?_
  refine ev_cv rfl rfl rfl ⟨Nat.le_of_ble_eq_true rfl, Nat.le_of_ble_eq_true rfl⟩ (sp_within X _ 0 0 5 ) ?_
  show Ev X k_X8_count (6, [some (vr 0), some (vi 0)], [vi (if 0 ≤ 0 ∧ 0 ≤ 5 then 1 else 0)]) (MS I J cc ss) _
  refine ev_s1 _ (by omega) ?_
  show Ev X k_X8_count (6, [some (vr 0), some (vi 0)], [vi 1]) (MS I J cc ss) _
  refine ev_cv rfl rfl rfl ⟨Nat.le_of_ble_eq_true rfl, Nat.le_of_ble_eq_true rfl⟩ (sp_reqA1 X _) ?_
  show Ev X k_X8_count (9, [some (vr 0), some (vi 0)], []) (MS I J cc ss) _
  refine ev_n (fr' := (51, [some (vr 0), some (vi 0)], [vr 2])) (S' := MS I J cc ss) 5 rfl ?_
  refine ev_cv rfl rfl rfl ⟨Nat.le_of_ble_eq_true rfl, Nat.le_of_ble_eq_true rfl⟩ (sp_sizeCount_2 X _ _ _ _  hS) ?_
  show Ev X k_X8_count (54, [some (vr 0), some (vi 0)], [vi (g 0)]) (MS I J cc ss) _
  refine ev_r rfl rfl rfl ?_
  first | exact ⟨_, _, rfl, rfl, rfl, scrC.refl _⟩ | exact ⟨_, _, rfl, congrArg (fun z => Sum.inl (some (vi z))) (by first | rfl | (rw [if_pos (by omega)]) | (rw [if_neg (by omega)]) | (simp only [*]; done) | omega), rfl, scrC.refl _⟩
theorem pb_count_1 (X : AX) (I J : Nat → Nat → Int) (cc ss : Nat) {g : F1}  (hS : SRep I 1 g) (hP : PRep I J 5 g) (hI : IRep I J 9 g) (hws : WS g) (hwp : WP g) (hwi : WI g)  : Ev X k_X8_count (0, [some (vr 0), some (vi 1)], []) (MS I J cc ss) (PV cc ss (some (vi (g 11))) (fun I' J' => J' = J ∧ scrC I I')) := by
  refine ev_n (fr' := (3, [some (vr 0), some (vi 1)], [vi 5, vi 0, vi 1])) (S' := MS I J cc ss) 3 rfl ?_
  refine ev_cv rfl rfl rfl ⟨Nat.le_of_ble_eq_true rfl, Nat.le_of_ble_eq_true rfl⟩ (sp_within X _ 1 0 5 ) ?_
  show Ev X k_X8_count (6, [some (vr 0), some (vi 1)], [vi (if 0 ≤ 1 ∧ 1 ≤ 5 then 1 else 0)]) (MS I J cc ss) _
  refine ev_s1 _ (by omega) ?_
  show Ev X k_X8_count (6, [some (vr 0), some (vi 1)], [vi 1]) (MS I J cc ss) _
  refine ev_cv rfl rfl rfl ⟨Nat.le_of_ble_eq_true rfl, Nat.le_of_ble_eq_true rfl⟩ (sp_reqA1 X _) ?_
  show Ev X k_X8_count (9, [some (vr 0), some (vi 1)], []) (MS I J cc ss) _
  refine ev_n (fr' := (62, [some (vr 0), some (vi 1)], [vr 5])) (S' := MS I J cc ss) 5 rfl ?_
  refine ev_cv rfl rfl rfl ⟨Nat.le_of_ble_eq_true rfl, Nat.le_of_ble_eq_true rfl⟩ (sp_rowCount_5 X _ _ _ _  hP) ?_
  show Ev X k_X8_count (65, [some (vr 0), some (vi 1)], [vi (g 11)]) (MS I J cc ss) _
  refine ev_r rfl rfl rfl ?_
  first | exact ⟨_, _, rfl, rfl, rfl, scrC.refl _⟩ | exact ⟨_, _, rfl, congrArg (fun z => Sum.inl (some (vi z))) (by first | rfl | (rw [if_pos (by omega)]) | (rw [if_neg (by omega)]) | (simp only [*]; done) | omega), rfl, scrC.refl _⟩
theorem pb_count_2 (X : AX) (I J : Nat → Nat → Int) (cc ss : Nat) {g : F1}  (hS : SRep I 1 g) (hP : PRep I J 5 g) (hI : IRep I J 9 g) (hws : WS g) (hwp : WP g) (hwi : WI g)  : Ev X k_X8_count (0, [some (vr 0), some (vi 2)], []) (MS I J cc ss) (PV cc ss (some (vi (g 308))) (fun I' J' => J' = J ∧ scrC I I')) := by
  refine ev_n (fr' := (3, [some (vr 0), some (vi 2)], [vi 5, vi 0, vi 2])) (S' := MS I J cc ss) 3 rfl ?_
  refine ev_cv rfl rfl rfl ⟨Nat.le_of_ble_eq_true rfl, Nat.le_of_ble_eq_true rfl⟩ (sp_within X _ 2 0 5 ) ?_
  show Ev X k_X8_count (6, [some (vr 0), some (vi 2)], [vi (if 0 ≤ 2 ∧ 2 ≤ 5 then 1 else 0)]) (MS I J cc ss) _
  refine ev_s1 _ (by omega) ?_
  show Ev X k_X8_count (6, [some (vr 0), some (vi 2)], [vi 1]) (MS I J cc ss) _
  refine ev_cv rfl rfl rfl ⟨Nat.le_of_ble_eq_true rfl, Nat.le_of_ble_eq_true rfl⟩ (sp_reqA1 X _) ?_
  show Ev X k_X8_count (9, [some (vr 0), some (vi 2)], []) (MS I J cc ss) _
  refine ev_n (fr' := (73, [some (vr 0), some (vi 2)], [vr 9])) (S' := MS I J cc ss) 5 rfl ?_
  refine ev_cv rfl rfl rfl ⟨Nat.le_of_ble_eq_true rfl, Nat.le_of_ble_eq_true rfl⟩ (sp_rowCount_9 X _ _ _ _  hI) ?_
  show Ev X k_X8_count (76, [some (vr 0), some (vi 2)], [vi (g 308)]) (MS I J cc ss) _
  refine ev_r rfl rfl rfl ?_
  first | exact ⟨_, _, rfl, rfl, rfl, scrC.refl _⟩ | exact ⟨_, _, rfl, congrArg (fun z => Sum.inl (some (vi z))) (by first | rfl | (rw [if_pos (by omega)]) | (rw [if_neg (by omega)]) | (simp only [*]; done) | omega), rfl, scrC.refl _⟩
theorem pb_count_3 (X : AX) (I J : Nat → Nat → Int) (cc ss : Nat) {g : F1}  (hS : SRep I 1 g) (hP : PRep I J 5 g) (hI : IRep I J 9 g) (hws : WS g) (hwp : WP g) (hwi : WI g)  : Ev X k_X8_count (0, [some (vr 0), some (vi 3)], []) (MS I J cc ss) (PV cc ss (some (vi (sumF (fun r => g (37 * r + 12)) (g 11).toNat))) (fun I' J' => J' = J ∧ scrC I I')) := by
  refine ev_n (fr' := (3, [some (vr 0), some (vi 3)], [vi 5, vi 0, vi 3])) (S' := MS I J cc ss) 3 rfl ?_
  refine ev_cv rfl rfl rfl ⟨Nat.le_of_ble_eq_true rfl, Nat.le_of_ble_eq_true rfl⟩ (sp_within X _ 3 0 5 ) ?_
  show Ev X k_X8_count (6, [some (vr 0), some (vi 3)], [vi (if 0 ≤ 3 ∧ 3 ≤ 5 then 1 else 0)]) (MS I J cc ss) _
  refine ev_s1 _ (by omega) ?_
  show Ev X k_X8_count (6, [some (vr 0), some (vi 3)], [vi 1]) (MS I J cc ss) _
  refine ev_cv rfl rfl rfl ⟨Nat.le_of_ble_eq_true rfl, Nat.le_of_ble_eq_true rfl⟩ (sp_reqA1 X _) ?_
  show Ev X k_X8_count (9, [some (vr 0), some (vi 3)], []) (MS I J cc ss) _
  refine ev_n (fr' := (84, [some (vr 0), some (vi 3)], [vr 5])) (S' := MS I J cc ss) 5 rfl ?_
  refine ev_cv rfl rfl rfl ⟨Nat.le_of_ble_eq_true rfl, Nat.le_of_ble_eq_true rfl⟩ (sp_allItems_5 X _ _ _ _  hP hwp) ?_
  show Ev X k_X8_count (87, [some (vr 0), some (vi 3)], [vi (sumF (fun r => g (37 * r + 12)) (g 11).toNat)]) (MS I J cc ss) _
  refine ev_r rfl rfl rfl ?_
  first | exact ⟨_, _, rfl, rfl, rfl, scrC.refl _⟩ | exact ⟨_, _, rfl, congrArg (fun z => Sum.inl (some (vi z))) (by first | rfl | (rw [if_pos (by omega)]) | (rw [if_neg (by omega)]) | (simp only [*]; done) | omega), rfl, scrC.refl _⟩
theorem pb_count_4 (X : AX) (I J : Nat → Nat → Int) (cc ss : Nat) {g : F1}  (hS : SRep I 1 g) (hP : PRep I J 5 g) (hI : IRep I J 9 g) (hws : WS g) (hwp : WP g) (hwi : WI g)  : Ev X k_X8_count (0, [some (vr 0), some (vi 4)], []) (MS I J cc ss) (PV cc ss (some (vi (sumF (fun r => g (19 * r + 309)) (g 308).toNat))) (fun I' J' => J' = J ∧ scrC I I')) := by
  refine ev_n (fr' := (3, [some (vr 0), some (vi 4)], [vi 5, vi 0, vi 4])) (S' := MS I J cc ss) 3 rfl ?_
  refine ev_cv rfl rfl rfl ⟨Nat.le_of_ble_eq_true rfl, Nat.le_of_ble_eq_true rfl⟩ (sp_within X _ 4 0 5 ) ?_
  show Ev X k_X8_count (6, [some (vr 0), some (vi 4)], [vi (if 0 ≤ 4 ∧ 4 ≤ 5 then 1 else 0)]) (MS I J cc ss) _
  refine ev_s1 _ (by omega) ?_
  show Ev X k_X8_count (6, [some (vr 0), some (vi 4)], [vi 1]) (MS I J cc ss) _
  refine ev_cv rfl rfl rfl ⟨Nat.le_of_ble_eq_true rfl, Nat.le_of_ble_eq_true rfl⟩ (sp_reqA1 X _) ?_
  show Ev X k_X8_count (9, [some (vr 0), some (vi 4)], []) (MS I J cc ss) _
  refine ev_n (fr' := (95, [some (vr 0), some (vi 4)], [vr 9])) (S' := MS I J cc ss) 5 rfl ?_
  refine ev_cv rfl rfl rfl ⟨Nat.le_of_ble_eq_true rfl, Nat.le_of_ble_eq_true rfl⟩ (sp_allItems_9 X _ _ _ _  hI hwi) ?_
  show Ev X k_X8_count (98, [some (vr 0), some (vi 4)], [vi (sumF (fun r => g (19 * r + 309)) (g 308).toNat)]) (MS I J cc ss) _
  refine ev_r rfl rfl rfl ?_
  first | exact ⟨_, _, rfl, rfl, rfl, scrC.refl _⟩ | exact ⟨_, _, rfl, congrArg (fun z => Sum.inl (some (vi z))) (by first | rfl | (rw [if_pos (by omega)]) | (rw [if_neg (by omega)]) | (simp only [*]; done) | omega), rfl, scrC.refl _⟩
theorem pb_count_5 (X : AX) (I J : Nat → Nat → Int) (cc ss : Nat) {g : F1}  (hS : SRep I 1 g) (hP : PRep I J 5 g) (hI : IRep I J 9 g) (hws : WS g) (hwp : WP g) (hwi : WI g)  : Ev X k_X8_count (0, [some (vr 0), some (vi 5)], []) (MS I J cc ss) (PV cc ss (some (vi (unF g))) (fun I' J' => J' = J ∧ scrC I I')) := by
  refine ev_n (fr' := (3, [some (vr 0), some (vi 5)], [vi 5, vi 0, vi 5])) (S' := MS I J cc ss) 3 rfl ?_
  refine ev_cv rfl rfl rfl ⟨Nat.le_of_ble_eq_true rfl, Nat.le_of_ble_eq_true rfl⟩ (sp_within X _ 5 0 5 ) ?_
  show Ev X k_X8_count (6, [some (vr 0), some (vi 5)], [vi (if 0 ≤ 5 ∧ 5 ≤ 5 then 1 else 0)]) (MS I J cc ss) _
  refine ev_s1 _ (by omega) ?_
  show Ev X k_X8_count (6, [some (vr 0), some (vi 5)], [vi 1]) (MS I J cc ss) _
  refine ev_cv rfl rfl rfl ⟨Nat.le_of_ble_eq_true rfl, Nat.le_of_ble_eq_true rfl⟩ (sp_reqA1 X _) ?_
  show Ev X k_X8_count (9, [some (vr 0), some (vi 5)], []) (MS I J cc ss) _
  refine ev_n (fr' := (103, [some (vr 0), some (vi 5)], [vr 1])) (S' := MS I J cc ss) 4 rfl ?_
  refine ev_cv rfl rfl rfl ⟨Nat.le_of_ble_eq_true rfl, Nat.le_of_ble_eq_true rfl⟩ (sp_unusedParts X _ _ _ _  hP hI hwp hwi) ?_
  show Ev X k_X8_count (106, [some (vr 0), some (vi 5)], [vi (unF g)]) (MS I J cc ss) _
  refine ev_r rfl rfl rfl ?_
  first | exact ⟨_, _, rfl, rfl, rfl, scrC.refl _⟩ | exact ⟨_, _, rfl, congrArg (fun z => Sum.inl (some (vi z))) (by first | rfl | (rw [if_pos (by omega)]) | (rw [if_neg (by omega)]) | (simp only [*]; done) | omega), rfl, scrC.refl _⟩
theorem pb_size_x (X : AX) (I J : Nat → Nat → Int) (cc ss : Nat) {g : F1} (y z : Int) (hS : SRep I 1 g) (hP : PRep I J 5 g) (hI : IRep I J 9 g) (hws : WS g) (hwp : WP g) (hwi : WI g) (h : ¬ (0 ≤ y ∧ y < g 0)) : Ev X k_X8_size (0, [some (vr 0), some (vi y), some (vi z)], []) (MS I J cc ss) (fun o T => o = .inr 2 ∧ T = MS I J (cc + 1) (ss + 6)) := by
  refine ev_n (fr' := (8, [some (vr 0), some (vi y), some (vi z)], [vi y, vr 2])) (S' := MS I J cc ss) 4 rfl ?_
  refine ev_cv rfl rfl rfl ⟨Nat.le_of_ble_eq_true rfl, Nat.le_of_ble_eq_true rfl⟩ (sp_has_2 X _ _ _ _ y hS) ?_
  show Ev X k_X8_size (11, [some (vr 0), some (vi y), some (vi z)], [vi (if 0 ≤ y ∧ y < g 0 then 1 else 0)]) (MS I J cc ss) _
  refine ev_s0 _ (h) ?_
  show Ev X k_X8_size (11, [some (vr 0), some (vi y), some (vi z)], [vi 0]) (MS I J cc ss) _
  refine ev_cx rfl rfl rfl ⟨Nat.le_of_ble_eq_true rfl, Nat.le_of_ble_eq_true rfl⟩ (sp_reqI0 X _ _ _ _) rfl ?_
  exact ⟨rfl, rfl⟩
theorem pb_size_y (X : AX) (I J : Nat → Nat → Int) (cc ss : Nat) {g : F1} (k : Nat) (z : Int) (hS : SRep I 1 g) (hP : PRep I J 5 g) (hI : IRep I J 9 g) (hws : WS g) (hwp : WP g) (hwi : WI g) (hk : (k : Int) < g 0) (h : ¬ (0 ≤ z ∧ z ≤ 2)) : Ev X k_X8_size (0, [some (vr 0), some (vi (k : Int)), some (vi z)], []) (MS I J cc ss) (fun o T => o = .inr 1 ∧ T = MS I J (cc + 1) (ss + 6)) := by
  refine ev_n (fr' := (8, [some (vr 0), some (vi (k : Int)), some (vi z)], [vi (k : Int), vr 2])) (S' := MS I J cc ss) 4 rfl ?_
  refine ev_cv rfl rfl rfl ⟨Nat.le_of_ble_eq_true rfl, Nat.le_of_ble_eq_true rfl⟩ (sp_has_2 X _ _ _ _ (k : Int) hS) ?_
  show Ev X k_X8_size (11, [some (vr 0), some (vi (k : Int)), some (vi z)], [vi (if 0 ≤ (k : Int) ∧ (k : Int) < g 0 then 1 else 0)]) (MS I J cc ss) _
  refine ev_s1 _ (by omega) ?_
  show Ev X k_X8_size (11, [some (vr 0), some (vi (k : Int)), some (vi z)], [vi 1]) (MS I J cc ss) _
  refine ev_cv rfl rfl rfl ⟨Nat.le_of_ble_eq_true rfl, Nat.le_of_ble_eq_true rfl⟩ (sp_reqI1 X _) ?_
  show Ev X k_X8_size (14, [some (vr 0), some (vi (k : Int)), some (vi z)], []) (MS I J cc ss) _
  refine ev_n (fr' := (17, [some (vr 0), some (vi (k : Int)), some (vi z)], [vi 2, vi 0, vi z])) (S' := MS I J cc ss) 3 rfl ?_
  refine ev_cv rfl rfl rfl ⟨Nat.le_of_ble_eq_true rfl, Nat.le_of_ble_eq_true rfl⟩ (sp_within X _ z 0 2 ) ?_
  show Ev X k_X8_size (20, [some (vr 0), some (vi (k : Int)), some (vi z)], [vi (if 0 ≤ z ∧ z ≤ 2 then 1 else 0)]) (MS I J cc ss) _
  refine ev_s0 _ (by omega) ?_
  show Ev X k_X8_size (20, [some (vr 0), some (vi (k : Int)), some (vi z)], [vi 0]) (MS I J cc ss) _
  refine ev_cx rfl rfl rfl ⟨Nat.le_of_ble_eq_true rfl, Nat.le_of_ble_eq_true rfl⟩ (sp_reqA0 X _ _ _ _) rfl ?_
  exact ⟨rfl, rfl⟩
theorem pb_size_0 (X : AX) (I J : Nat → Nat → Int) (cc ss : Nat) {g : F1} (k : Nat) (hS : SRep I 1 g) (hP : PRep I J 5 g) (hI : IRep I J 9 g) (hws : WS g) (hwp : WP g) (hwi : WI g) (hk : (k : Int) < g 0) : Ev X k_X8_size (0, [some (vr 0), some (vi (k : Int)), some (vi 0)], []) (MS I J cc ss) (PV cc ss (some (vi (g (2 * k + 1)))) (fun I' J' => J' = J ∧ scrC I I')) := by
  refine ev_n (fr' := (8, [some (vr 0), some (vi (k : Int)), some (vi 0)], [vi (k : Int), vr 2])) (S' := MS I J cc ss) 4 rfl ?_
  refine ev_cv rfl rfl rfl ⟨Nat.le_of_ble_eq_true rfl, Nat.le_of_ble_eq_true rfl⟩ (sp_has_2 X _ _ _ _ (k : Int) hS) ?_
  show Ev X k_X8_size (11, [some (vr 0), some (vi (k : Int)), some (vi 0)], [vi (if 0 ≤ (k : Int) ∧ (k : Int) < g 0 then 1 else 0)]) (MS I J cc ss) _
  refine ev_s1 _ (by omega) ?_
  show Ev X k_X8_size (11, [some (vr 0), some (vi (k : Int)), some (vi 0)], [vi 1]) (MS I J cc ss) _
  refine ev_cv rfl rfl rfl ⟨Nat.le_of_ble_eq_true rfl, Nat.le_of_ble_eq_true rfl⟩ (sp_reqI1 X _) ?_
  show Ev X k_X8_size (14, [some (vr 0), some (vi (k : Int)), some (vi 0)], []) (MS I J cc ss) _
  refine ev_n (fr' := (17, [some (vr 0), some (vi (k : Int)), some (vi 0)], [vi 2, vi 0, vi 0])) (S' := MS I J cc ss) 3 rfl ?_
  refine ev_cv rfl rfl rfl ⟨Nat.le_of_ble_eq_true rfl, Nat.le_of_ble_eq_true rfl⟩ (sp_within X _ 0 0 2 ) ?_
  show Ev X k_X8_size (20, [some (vr 0), some (vi (k : Int)), some (vi 0)], [vi (if 0 ≤ 0 ∧ 0 ≤ 2 then 1 else 0)]) (MS I J cc ss) _
  refine ev_s1 _ (by omega) ?_
  show Ev X k_X8_size (20, [some (vr 0), some (vi (k : Int)), some (vi 0)], [vi 1]) (MS I J cc ss) _
  refine ev_cv rfl rfl rfl ⟨Nat.le_of_ble_eq_true rfl, Nat.le_of_ble_eq_true rfl⟩ (sp_reqA1 X _) ?_
  show Ev X k_X8_size (23, [some (vr 0), some (vi (k : Int)), some (vi 0)], []) (MS I J cc ss) _
  refine ev_n (fr' := (60, [some (vr 0), some (vi (k : Int)), some (vi 0)], [vi (k : Int), vr 2])) (S' := MS I J cc ss) 6 rfl ?_
  refine ev_cv rfl rfl rfl ⟨Nat.le_of_ble_eq_true rfl, Nat.le_of_ble_eq_true rfl⟩ (sp_pixelsOf_2 X _ _ _ _ k hS hws (by omega)) ?_
  show Ev X k_X8_size (63, [some (vr 0), some (vi (k : Int)), some (vi 0)], [vi (g (2 * k + 1))]) (MS I J cc ss) _
  refine ev_r rfl rfl rfl ?_
  first | exact ⟨_, _, rfl, rfl, rfl, scrC.refl _⟩ | exact ⟨_, _, rfl, congrArg (fun z => Sum.inl (some (vi z))) (by first | rfl | (rw [if_pos (by omega)]) | (rw [if_neg (by omega)]) | (simp only [*]; done) | omega), rfl, scrC.refl _⟩
theorem pb_size_1 (X : AX) (I J : Nat → Nat → Int) (cc ss : Nat) {g : F1} (k : Nat) (hS : SRep I 1 g) (hP : PRep I J 5 g) (hI : IRep I J 9 g) (hws : WS g) (hwp : WP g) (hwi : WI g) (hk : (k : Int) < g 0) : Ev X k_X8_size (0, [some (vr 0), some (vi (k : Int)), some (vi 1)], []) (MS I J cc ss) (PV cc ss (some (vi (g (2 * k + 2)))) (fun I' J' => J' = J ∧ scrC I I')) := by
  refine ev_n (fr' := (8, [some (vr 0), some (vi (k : Int)), some (vi 1)], [vi (k : Int), vr 2])) (S' := MS I J cc ss) 4 rfl ?_
  refine ev_cv rfl rfl rfl ⟨Nat.le_of_ble_eq_true rfl, Nat.le_of_ble_eq_true rfl⟩ (sp_has_2 X _ _ _ _ (k : Int) hS) ?_
  show Ev X k_X8_size (11, [some (vr 0), some (vi (k : Int)), some (vi 1)], [vi (if 0 ≤ (k : Int) ∧ (k : Int) < g 0 then 1 else 0)]) (MS I J cc ss) _
  refine ev_s1 _ (by omega) ?_
  show Ev X k_X8_size (11, [some (vr 0), some (vi (k : Int)), some (vi 1)], [vi 1]) (MS I J cc ss) _
  refine ev_cv rfl rfl rfl ⟨Nat.le_of_ble_eq_true rfl, Nat.le_of_ble_eq_true rfl⟩ (sp_reqI1 X _) ?_
  show Ev X k_X8_size (14, [some (vr 0), some (vi (k : Int)), some (vi 1)], []) (MS I J cc ss) _
  refine ev_n (fr' := (17, [some (vr 0), some (vi (k : Int)), some (vi 1)], [vi 2, vi 0, vi 1])) (S' := MS I J cc ss) 3 rfl ?_
  refine ev_cv rfl rfl rfl ⟨Nat.le_of_ble_eq_true rfl, Nat.le_of_ble_eq_true rfl⟩ (sp_within X _ 1 0 2 ) ?_
  show Ev X k_X8_size (20, [some (vr 0), some (vi (k : Int)), some (vi 1)], [vi (if 0 ≤ 1 ∧ 1 ≤ 2 then 1 else 0)]) (MS I J cc ss) _
  refine ev_s1 _ (by omega) ?_
  show Ev X k_X8_size (20, [some (vr 0), some (vi (k : Int)), some (vi 1)], [vi 1]) (MS I J cc ss) _
  refine ev_cv rfl rfl rfl ⟨Nat.le_of_ble_eq_true rfl, Nat.le_of_ble_eq_true rfl⟩ (sp_reqA1 X _) ?_
  show Ev X k_X8_size (23, [some (vr 0), some (vi (k : Int)), some (vi 1)], []) (MS I J cc ss) _
  refine ev_n (fr' := (72, [some (vr 0), some (vi (k : Int)), some (vi 1)], [vi (k : Int), vr 2])) (S' := MS I J cc ss) 6 rfl ?_
  refine ev_cv rfl rfl rfl ⟨Nat.le_of_ble_eq_true rfl, Nat.le_of_ble_eq_true rfl⟩ (sp_extraOf_2 X _ _ _ _ k hS hws (by omega)) ?_
  show Ev X k_X8_size (75, [some (vr 0), some (vi (k : Int)), some (vi 1)], [vi (g (2 * k + 2))]) (MS I J cc ss) _
  refine ev_r rfl rfl rfl ?_
  first | exact ⟨_, _, rfl, rfl, rfl, scrC.refl _⟩ | exact ⟨_, _, rfl, congrArg (fun z => Sum.inl (some (vi z))) (by first | rfl | (rw [if_pos (by omega)]) | (rw [if_neg (by omega)]) | (simp only [*]; done) | omega), rfl, scrC.refl _⟩
theorem pb_size_2 (X : AX) (I J : Nat → Nat → Int) (cc ss : Nat) {g : F1} (k : Nat) (hS : SRep I 1 g) (hP : PRep I J 5 g) (hI : IRep I J 9 g) (hws : WS g) (hwp : WP g) (hwi : WI g) (hk : (k : Int) < g 0) : Ev X k_X8_size (0, [some (vr 0), some (vi (k : Int)), some (vi 2)], []) (MS I J cc ss) (PV cc ss (some (vi (mwF g (g (2 * k + 1)) (g (2 * k + 2))))) (fun I' J' => J' = J ∧ scrC I I')) := by
  have hO := scrC.refl I
  have hr := hws.2.2.1 k hk
  refine ev_n (fr' := (8, [some (vr 0), some (vi (k : Int)), some (vi 2)], [vi (k : Int), vr 2])) (S' := MS I J cc ss) 4 rfl ?_
  refine ev_cv rfl rfl rfl ⟨Nat.le_of_ble_eq_true rfl, Nat.le_of_ble_eq_true rfl⟩ (sp_has_2 X _ _ _ _ (k : Int) hS) ?_
  show Ev X k_X8_size (11, [some (vr 0), some (vi (k : Int)), some (vi 2)], [vi (if 0 ≤ (k : Int) ∧ (k : Int) < g 0 then 1 else 0)]) (MS I J cc ss) _
  refine ev_s1 _ (by omega) ?_
  show Ev X k_X8_size (11, [some (vr 0), some (vi (k : Int)), some (vi 2)], [vi 1]) (MS I J cc ss) _
  refine ev_cv rfl rfl rfl ⟨Nat.le_of_ble_eq_true rfl, Nat.le_of_ble_eq_true rfl⟩ (sp_reqI1 X _) ?_
  show Ev X k_X8_size (14, [some (vr 0), some (vi (k : Int)), some (vi 2)], []) (MS I J cc ss) _
  refine ev_n (fr' := (17, [some (vr 0), some (vi (k : Int)), some (vi 2)], [vi 2, vi 0, vi 2])) (S' := MS I J cc ss) 3 rfl ?_
  refine ev_cv rfl rfl rfl ⟨Nat.le_of_ble_eq_true rfl, Nat.le_of_ble_eq_true rfl⟩ (sp_within X _ 2 0 2 ) ?_
  show Ev X k_X8_size (20, [some (vr 0), some (vi (k : Int)), some (vi 2)], [vi (if 0 ≤ 2 ∧ 2 ≤ 2 then 1 else 0)]) (MS I J cc ss) _
  refine ev_s1 _ (by omega) ?_
  show Ev X k_X8_size (20, [some (vr 0), some (vi (k : Int)), some (vi 2)], [vi 1]) (MS I J cc ss) _
  refine ev_cv rfl rfl rfl ⟨Nat.le_of_ble_eq_true rfl, Nat.le_of_ble_eq_true rfl⟩ (sp_reqA1 X _) ?_
  show Ev X k_X8_size (23, [some (vr 0), some (vi (k : Int)), some (vi 2)], []) (MS I J cc ss) _
  refine ev_n (fr' := (85, [some (vr 0), some (vi (k : Int)), some (vi 2)], [vi (k : Int), vr 2, vr 0])) (S' := MS I J cc ss) 7 rfl ?_
  refine ev_cv rfl rfl rfl ⟨Nat.le_of_ble_eq_true rfl, Nat.le_of_ble_eq_true rfl⟩ (sp_pixelsOf_2 X _ _ _ _ k hS hws (by omega)) ?_
  show Ev X k_X8_size (88, [some (vr 0), some (vi (k : Int)), some (vi 2)], [vi (g (2 * k + 1)), vr 0]) (MS I J cc ss) _
  refine ev_n (fr' := (96, [some (vr 0), some (vi (k : Int)), some (vi 2)], [vi (k : Int), vr 2, vi (g (2 * k + 1)), vr 0])) (S' := MS I J cc ss) 4 rfl ?_
  refine ev_cv rfl rfl rfl ⟨Nat.le_of_ble_eq_true rfl, Nat.le_of_ble_eq_true rfl⟩ (sp_extraOf_2 X _ _ _ _ k hS hws (by omega)) ?_
  show Ev X k_X8_size (99, [some (vr 0), some (vi (k : Int)), some (vi 2)], [vi (g (2 * k + 2)), vi (g (2 * k + 1)), vr 0]) (MS I J cc ss) _
  refine ev_cz rfl rfl rfl ⟨Nat.le_of_ble_eq_true rfl, Nat.le_of_ble_eq_true rfl⟩ (sp_meanWeight X _ _ _ _ (g (2 * k + 1)) (g (2 * k + 2)) hP hI hwp hwi (by omega) (by omega)) (fun zI1 I1 J q2 => ?_)
  obtain ⟨rfl, rI1, hzI1⟩ := q2
  show Ev X k_X8_size (102, [some (vr 0), some (vi (k : Int)), some (vi 2)], [vi zI1]) (MS I1 J cc ss) _
  rw [hzI1]
  have hO := hO.trans (rI1.scr (by decide))
  have hS := onlyD.S rI1 (by decide) (by decide) hS
  have hP := onlyD.P rI1 (by decide) (by decide) hP
  have hI := onlyD.I rI1 (by decide) (by decide) hI
  have := mwF_rng (g := g) (P := (g (2 * k + 1))) (e := (g (2 * k + 2))) hwi (by omega)
  refine ev_r rfl rfl rfl ?_
  exact ⟨_, _, rfl, rfl, rfl, hO⟩
theorem pb_stroke_x (X : AX) (I J : Nat → Nat → Int) (cc ss : Nat) {g : F1} (y z : Int) (hS : SRep I 1 g) (hP : PRep I J 5 g) (hI : IRep I J 9 g) (hws : WS g) (hwp : WP g) (hwi : WI g) (h : ¬ (0 ≤ y ∧ y < g 0)) : Ev X k_X8_stroke (0, [some (vr 0), some (vi y), some (vi z)], []) (MS I J cc ss) (fun o T => o = .inr 2 ∧ T = MS I J (cc + 1) (ss + 6)) := by
  refine ev_n (fr' := (8, [some (vr 0), some (vi y), some (vi z)], [vi y, vr 2])) (S' := MS I J cc ss) 4 rfl ?_
  refine ev_cv rfl rfl rfl ⟨Nat.le_of_ble_eq_true rfl, Nat.le_of_ble_eq_true rfl⟩ (sp_has_2 X _ _ _ _ y hS) ?_
  show Ev X k_X8_stroke (11, [some (vr 0), some (vi y), some (vi z)], [vi (if 0 ≤ y ∧ y < g 0 then 1 else 0)]) (MS I J cc ss) _
  refine ev_s0 _ (h) ?_
  show Ev X k_X8_stroke (11, [some (vr 0), some (vi y), some (vi z)], [vi 0]) (MS I J cc ss) _
  refine ev_cx rfl rfl rfl ⟨Nat.le_of_ble_eq_true rfl, Nat.le_of_ble_eq_true rfl⟩ (sp_reqI0 X _ _ _ _) rfl ?_
  exact ⟨rfl, rfl⟩
theorem pb_stroke_y (X : AX) (I J : Nat → Nat → Int) (cc ss : Nat) {g : F1} (k : Nat) (z : Int) (hS : SRep I 1 g) (hP : PRep I J 5 g) (hI : IRep I J 9 g) (hws : WS g) (hwp : WP g) (hwi : WI g) (hk : (k : Int) < g 0) (h : ¬ (1 ≤ z ∧ z ≤ 12)) : Ev X k_X8_stroke (0, [some (vr 0), some (vi (k : Int)), some (vi z)], []) (MS I J cc ss) (fun o T => o = .inr 1 ∧ T = MS I J (cc + 1) (ss + 6)) := by
  refine ev_n (fr' := (8, [some (vr 0), some (vi (k : Int)), some (vi z)], [vi (k : Int), vr 2])) (S' := MS I J cc ss) 4 rfl ?_
  refine ev_cv rfl rfl rfl ⟨Nat.le_of_ble_eq_true rfl, Nat.le_of_ble_eq_true rfl⟩ (sp_has_2 X _ _ _ _ (k : Int) hS) ?_
  show Ev X k_X8_stroke (11, [some (vr 0), some (vi (k : Int)), some (vi z)], [vi (if 0 ≤ (k : Int) ∧ (k : Int) < g 0 then 1 else 0)]) (MS I J cc ss) _
  refine ev_s1 _ (by omega) ?_
  show Ev X k_X8_stroke (11, [some (vr 0), some (vi (k : Int)), some (vi z)], [vi 1]) (MS I J cc ss) _
  refine ev_cv rfl rfl rfl ⟨Nat.le_of_ble_eq_true rfl, Nat.le_of_ble_eq_true rfl⟩ (sp_reqI1 X _) ?_
  show Ev X k_X8_stroke (14, [some (vr 0), some (vi (k : Int)), some (vi z)], []) (MS I J cc ss) _
  refine ev_n (fr' := (18, [some (vr 0), some (vi (k : Int)), some (vi z)], [vi 12, vi 1, vi z])) (S' := MS I J cc ss) 3 rfl ?_
  refine ev_cv rfl rfl rfl ⟨Nat.le_of_ble_eq_true rfl, Nat.le_of_ble_eq_true rfl⟩ (sp_within X _ z 1 12 ) ?_
  show Ev X k_X8_stroke (21, [some (vr 0), some (vi (k : Int)), some (vi z)], [vi (if 1 ≤ z ∧ z ≤ 12 then 1 else 0)]) (MS I J cc ss) _
  refine ev_s0 _ (by omega) ?_
  show Ev X k_X8_stroke (21, [some (vr 0), some (vi (k : Int)), some (vi z)], [vi 0]) (MS I J cc ss) _
  refine ev_cx rfl rfl rfl ⟨Nat.le_of_ble_eq_true rfl, Nat.le_of_ble_eq_true rfl⟩ (sp_reqA0 X _ _ _ _) rfl ?_
  exact ⟨rfl, rfl⟩
theorem pb_stroke (X : AX) (I J : Nat → Nat → Int) (cc ss : Nat) {g : F1} (k : Nat) (z : Int) (hS : SRep I 1 g) (hP : PRep I J 5 g) (hI : IRep I J 9 g) (hws : WS g) (hwp : WP g) (hwi : WI g) (hk : (k : Int) < g 0) (h : 1 ≤ z ∧ z ≤ 12) : Ev X k_X8_stroke (0, [some (vr 0), some (vi (k : Int)), some (vi z)], []) (MS I J cc ss) (PV cc ss (some (vi (strokeF z (g (2 * k + 1)) (g (2 * k + 2))))) (fun I' J' => J' = J ∧ scrC I I')) := by
  have hr := hws.2.2.1 k hk
  refine ev_n (fr' := (8, [some (vr 0), some (vi (k : Int)), some (vi z)], [vi (k : Int), vr 2])) (S' := MS I J cc ss) 4 rfl ?_
  refine ev_cv rfl rfl rfl ⟨Nat.le_of_ble_eq_true rfl, Nat.le_of_ble_eq_true rfl⟩ (sp_has_2 X _ _ _ _ (k : Int) hS) ?_
  show Ev X k_X8_stroke (11, [some (vr 0), some (vi (k : Int)), some (vi z)], [vi (if 0 ≤ (k : Int) ∧ (k : Int) < g 0 then 1 else 0)]) (MS I J cc ss) _
  refine ev_s1 _ (by omega) ?_
  show Ev X k_X8_stroke (11, [some (vr 0), some (vi (k : Int)), some (vi z)], [vi 1]) (MS I J cc ss) _
  refine ev_cv rfl rfl rfl ⟨Nat.le_of_ble_eq_true rfl, Nat.le_of_ble_eq_true rfl⟩ (sp_reqI1 X _) ?_
  show Ev X k_X8_stroke (14, [some (vr 0), some (vi (k : Int)), some (vi z)], []) (MS I J cc ss) _
  refine ev_n (fr' := (18, [some (vr 0), some (vi (k : Int)), some (vi z)], [vi 12, vi 1, vi z])) (S' := MS I J cc ss) 3 rfl ?_
  refine ev_cv rfl rfl rfl ⟨Nat.le_of_ble_eq_true rfl, Nat.le_of_ble_eq_true rfl⟩ (sp_within X _ z 1 12 ) ?_
  show Ev X k_X8_stroke (21, [some (vr 0), some (vi (k : Int)), some (vi z)], [vi (if 1 ≤ z ∧ z ≤ 12 then 1 else 0)]) (MS I J cc ss) _
  refine ev_s1 _ (by omega) ?_
  show Ev X k_X8_stroke (21, [some (vr 0), some (vi (k : Int)), some (vi z)], [vi 1]) (MS I J cc ss) _
  refine ev_cv rfl rfl rfl ⟨Nat.le_of_ble_eq_true rfl, Nat.le_of_ble_eq_true rfl⟩ (sp_reqA1 X _) ?_
  show Ev X k_X8_stroke (24, [some (vr 0), some (vi (k : Int)), some (vi z)], []) (MS I J cc ss) _
  refine ev_n (fr' := (33, [some (vr 0), some (vi (k : Int)), some (vi z)], [vi (k : Int), vr 2, vi z])) (S' := MS I J cc ss) 5 rfl ?_
  refine ev_cv rfl rfl rfl ⟨Nat.le_of_ble_eq_true rfl, Nat.le_of_ble_eq_true rfl⟩ (sp_pixelsOf_2 X _ _ _ _ k hS hws (by omega)) ?_
  show Ev X k_X8_stroke (36, [some (vr 0), some (vi (k : Int)), some (vi z)], [vi (g (2 * k + 1)), vi z]) (MS I J cc ss) _
  refine ev_n (fr' := (44, [some (vr 0), some (vi (k : Int)), some (vi z)], [vi (k : Int), vr 2, vi (g (2 * k + 1)), vi z])) (S' := MS I J cc ss) 4 rfl ?_
  refine ev_cv rfl rfl rfl ⟨Nat.le_of_ble_eq_true rfl, Nat.le_of_ble_eq_true rfl⟩ (sp_extraOf_2 X _ _ _ _ k hS hws (by omega)) ?_
  show Ev X k_X8_stroke (47, [some (vr 0), some (vi (k : Int)), some (vi z)], [vi (g (2 * k + 2)), vi (g (2 * k + 1)), vi z]) (MS I J cc ss) _
  refine ev_cv rfl rfl rfl ⟨Nat.le_of_ble_eq_true rfl, Nat.le_of_ble_eq_true rfl⟩ (sp_c_strokeOf X _ z (g (2 * k + 1)) (g (2 * k + 2)) (by omega) (by omega) (by omega)) ?_
  show Ev X k_X8_stroke (50, [some (vr 0), some (vi (k : Int)), some (vi z)], [vi (strokeF z (g (2 * k + 1)) (g (2 * k + 2)))]) (MS I J cc ss) _
  have := strokeF_rng (t := z) (P := (g (2 * k + 1))) (e := (g (2 * k + 2))) (by omega) (by omega) (by omega) (by omega) (by omega) (by omega)
  refine ev_r rfl rfl rfl ?_
  first | exact ⟨_, _, rfl, rfl, rfl, scrC.refl _⟩ | exact ⟨_, _, rfl, congrArg (fun z => Sum.inl (some (vi z))) (by first | rfl | (rw [if_pos (by omega)]) | (rw [if_neg (by omega)]) | (simp only [*]; done) | omega), rfl, scrC.refl _⟩
theorem pb_findPart (X : AX) (I J : Nat → Nat → Int) (cc ss : Nat) {g : F1} (x : Int) (hS : SRep I 1 g) (hP : PRep I J 5 g) (hI : IRep I J 9 g) (hws : WS g) (hwp : WP g) (hwi : WI g)  : Ev X k_X8_findPart (0, [some (vr 0), some (vl x), none], []) (MS I J cc ss) (PV cc ss (some (vi (fnd (fun r => g (r + 461)) x (g 11).toNat 0))) (fun I' J' => J' = J ∧ scrC I I')) := by
  refine ev_n (fr' := (8, [some (vr 0), some (vl x), none], [vl x, vr 5])) (S' := MS I J cc ss) 4 rfl ?_
  refine ev_cv rfl rfl rfl ⟨Nat.le_of_ble_eq_true rfl, Nat.le_of_ble_eq_true rfl⟩ (sp_find_5 X _ _ _ _ x hP hwp) ?_
  show Ev X k_X8_findPart (11, [some (vr 0), some (vl x), none], [vi (fnd (fun r => g (r + 461)) x (g 11).toNat 0)]) (MS I J cc ss) _
  refine ev_r rfl rfl rfl ?_
  first | exact ⟨_, _, rfl, rfl, rfl, scrC.refl _⟩ | exact ⟨_, _, rfl, congrArg (fun z => Sum.inl (some (vi z))) (by first | rfl | (rw [if_pos (by omega)]) | (rw [if_neg (by omega)]) | (simp only [*]; done) | omega), rfl, scrC.refl _⟩
theorem pb_findIcon (X : AX) (I J : Nat → Nat → Int) (cc ss : Nat) {g : F1} (x : Int) (hS : SRep I 1 g) (hP : PRep I J 5 g) (hI : IRep I J 9 g) (hws : WS g) (hwp : WP g) (hwi : WI g)  : Ev X k_X8_findIcon (0, [some (vr 0), some (vl x), none], []) (MS I J cc ss) (PV cc ss (some (vi (fnd (fun r => g (r + 469)) x (g 308).toNat 0))) (fun I' J' => J' = J ∧ scrC I I')) := by
  refine ev_n (fr' := (8, [some (vr 0), some (vl x), none], [vl x, vr 9])) (S' := MS I J cc ss) 4 rfl ?_
  refine ev_cv rfl rfl rfl ⟨Nat.le_of_ble_eq_true rfl, Nat.le_of_ble_eq_true rfl⟩ (sp_find_9 X _ _ _ _ x hI hwi) ?_
  show Ev X k_X8_findIcon (11, [some (vr 0), some (vl x), none], [vi (fnd (fun r => g (r + 469)) x (g 308).toNat 0)]) (MS I J cc ss) _
  refine ev_r rfl rfl rfl ?_
  first | exact ⟨_, _, rfl, rfl, rfl, scrC.refl _⟩ | exact ⟨_, _, rfl, congrArg (fun z => Sum.inl (some (vi z))) (by first | rfl | (rw [if_pos (by omega)]) | (rw [if_neg (by omega)]) | (simp only [*]; done) | omega), rfl, scrC.refl _⟩
theorem pb_part_x (X : AX) (I J : Nat → Nat → Int) (cc ss : Nat) {g : F1} (y z : Int) (hS : SRep I 1 g) (hP : PRep I J 5 g) (hI : IRep I J 9 g) (hws : WS g) (hwp : WP g) (hwi : WI g) (h : ¬ (0 ≤ y ∧ y < g 11)) : Ev X k_X8_part (0, [some (vr 0), some (vi y), some (vi z)], []) (MS I J cc ss) (fun o T => o = .inr 2 ∧ T = MS I J (cc + 1) (ss + 6)) := by
  refine ev_n (fr' := (8, [some (vr 0), some (vi y), some (vi z)], [vi y, vr 5])) (S' := MS I J cc ss) 4 rfl ?_
  refine ev_cv rfl rfl rfl ⟨Nat.le_of_ble_eq_true rfl, Nat.le_of_ble_eq_true rfl⟩ (sp_hasRow_5 X _ _ _ _ y hP) ?_
  show Ev X k_X8_part (11, [some (vr 0), some (vi y), some (vi z)], [vi (if 0 ≤ y ∧ y < g 11 then 1 else 0)]) (MS I J cc ss) _
  refine ev_s0 _ (h) ?_
  show Ev X k_X8_part (11, [some (vr 0), some (vi y), some (vi z)], [vi 0]) (MS I J cc ss) _
  refine ev_cx rfl rfl rfl ⟨Nat.le_of_ble_eq_true rfl, Nat.le_of_ble_eq_true rfl⟩ (sp_reqI0 X _ _ _ _) rfl ?_
  exact ⟨rfl, rfl⟩
theorem pb_part_y (X : AX) (I J : Nat → Nat → Int) (cc ss : Nat) {g : F1} (k : Nat) (z : Int) (hS : SRep I 1 g) (hP : PRep I J 5 g) (hI : IRep I J 9 g) (hws : WS g) (hwp : WP g) (hwi : WI g) (hk : (k : Int) < g 11) (h : ¬ (0 ≤ z ∧ z ≤ 2)) : Ev X k_X8_part (0, [some (vr 0), some (vi (k : Int)), some (vi z)], []) (MS I J cc ss) (fun o T => o = .inr 1 ∧ T = MS I J (cc + 1) (ss + 6)) := by
  refine ev_n (fr' := (8, [some (vr 0), some (vi (k : Int)), some (vi z)], [vi (k : Int), vr 5])) (S' := MS I J cc ss) 4 rfl ?_
  refine ev_cv rfl rfl rfl ⟨Nat.le_of_ble_eq_true rfl, Nat.le_of_ble_eq_true rfl⟩ (sp_hasRow_5 X _ _ _ _ (k : Int) hP) ?_
  show Ev X k_X8_part (11, [some (vr 0), some (vi (k : Int)), some (vi z)], [vi (if 0 ≤ (k : Int) ∧ (k : Int) < g 11 then 1 else 0)]) (MS I J cc ss) _
  refine ev_s1 _ (by omega) ?_
  show Ev X k_X8_part (11, [some (vr 0), some (vi (k : Int)), some (vi z)], [vi 1]) (MS I J cc ss) _
  refine ev_cv rfl rfl rfl ⟨Nat.le_of_ble_eq_true rfl, Nat.le_of_ble_eq_true rfl⟩ (sp_reqI1 X _) ?_
  show Ev X k_X8_part (14, [some (vr 0), some (vi (k : Int)), some (vi z)], []) (MS I J cc ss) _
  refine ev_n (fr' := (17, [some (vr 0), some (vi (k : Int)), some (vi z)], [vi 2, vi 0, vi z])) (S' := MS I J cc ss) 3 rfl ?_
  refine ev_cv rfl rfl rfl ⟨Nat.le_of_ble_eq_true rfl, Nat.le_of_ble_eq_true rfl⟩ (sp_within X _ z 0 2 ) ?_
  show Ev X k_X8_part (20, [some (vr 0), some (vi (k : Int)), some (vi z)], [vi (if 0 ≤ z ∧ z ≤ 2 then 1 else 0)]) (MS I J cc ss) _
  refine ev_s0 _ (by omega) ?_
  show Ev X k_X8_part (20, [some (vr 0), some (vi (k : Int)), some (vi z)], [vi 0]) (MS I J cc ss) _
  refine ev_cx rfl rfl rfl ⟨Nat.le_of_ble_eq_true rfl, Nat.le_of_ble_eq_true rfl⟩ (sp_reqA0 X _ _ _ _) rfl ?_
  exact ⟨rfl, rfl⟩
theorem pb_part_0 (X : AX) (I J : Nat → Nat → Int) (cc ss : Nat) {g : F1} (k : Nat) (hS : SRep I 1 g) (hP : PRep I J 5 g) (hI : IRep I J 9 g) (hws : WS g) (hwp : WP g) (hwi : WI g) (hk : (k : Int) < g 11) : Ev X k_X8_part (0, [some (vr 0), some (vi (k : Int)), some (vi 0)], []) (MS I J cc ss) (PV cc ss (some (vi (g (37 * k + 12)))) (fun I' J' => J' = J ∧ scrC I I')) := by
  refine ev_n (fr' := (8, [some (vr 0), some (vi (k : Int)), some (vi 0)], [vi (k : Int), vr 5])) (S' := MS I J cc ss) 4 rfl ?_
  refine ev_cv rfl rfl rfl ⟨Nat.le_of_ble_eq_true rfl, Nat.le_of_ble_eq_true rfl⟩ (sp_hasRow_5 X _ _ _ _ (k : Int) hP) ?_
  show Ev X k_X8_part (11, [some (vr 0), some (vi (k : Int)), some (vi 0)], [vi (if 0 ≤ (k : Int) ∧ (k : Int) < g 11 then 1 else 0)]) (MS I J cc ss) _
  refine ev_s1 _ (by omega) ?_
  show Ev X k_X8_part (11, [some (vr 0), some (vi (k : Int)), some (vi 0)], [vi 1]) (MS I J cc ss) _
  refine ev_cv rfl rfl rfl ⟨Nat.le_of_ble_eq_true rfl, Nat.le_of_ble_eq_true rfl⟩ (sp_reqI1 X _) ?_
  show Ev X k_X8_part (14, [some (vr 0), some (vi (k : Int)), some (vi 0)], []) (MS I J cc ss) _
  refine ev_n (fr' := (17, [some (vr 0), some (vi (k : Int)), some (vi 0)], [vi 2, vi 0, vi 0])) (S' := MS I J cc ss) 3 rfl ?_
  refine ev_cv rfl rfl rfl ⟨Nat.le_of_ble_eq_true rfl, Nat.le_of_ble_eq_true rfl⟩ (sp_within X _ 0 0 2 ) ?_
  show Ev X k_X8_part (20, [some (vr 0), some (vi (k : Int)), some (vi 0)], [vi (if 0 ≤ 0 ∧ 0 ≤ 2 then 1 else 0)]) (MS I J cc ss) _
  refine ev_s1 _ (by omega) ?_
  show Ev X k_X8_part (20, [some (vr 0), some (vi (k : Int)), some (vi 0)], [vi 1]) (MS I J cc ss) _
  refine ev_cv rfl rfl rfl ⟨Nat.le_of_ble_eq_true rfl, Nat.le_of_ble_eq_true rfl⟩ (sp_reqA1 X _) ?_
  show Ev X k_X8_part (23, [some (vr 0), some (vi (k : Int)), some (vi 0)], []) (MS I J cc ss) _
  refine ev_n (fr' := (60, [some (vr 0), some (vi (k : Int)), some (vi 0)], [vi (k : Int), vr 5])) (S' := MS I J cc ss) 6 rfl ?_
  refine ev_cv rfl rfl rfl ⟨Nat.le_of_ble_eq_true rfl, Nat.le_of_ble_eq_true rfl⟩ (sp_itemsOf_5 X _ _ _ _ k hP hwp (by omega)) ?_
  show Ev X k_X8_part (63, [some (vr 0), some (vi (k : Int)), some (vi 0)], [vi (g (37 * k + 12))]) (MS I J cc ss) _
  refine ev_r rfl rfl rfl ?_
  first | exact ⟨_, _, rfl, rfl, rfl, scrC.refl _⟩ | exact ⟨_, _, rfl, congrArg (fun z => Sum.inl (some (vi z))) (by first | rfl | (rw [if_pos (by omega)]) | (rw [if_neg (by omega)]) | (simp only [*]; done) | omega), rfl, scrC.refl _⟩
theorem pb_part_1 (X : AX) (I J : Nat → Nat → Int) (cc ss : Nat) {g : F1} (k : Nat) (hS : SRep I 1 g) (hP : PRep I J 5 g) (hI : IRep I J 9 g) (hws : WS g) (hwp : WP g) (hwi : WI g) (hk : (k : Int) < g 11) : Ev X k_X8_part (0, [some (vr 0), some (vi (k : Int)), some (vi 1)], []) (MS I J cc ss) (PV cc ss (some (vi (upF g (k : Int)))) (fun I' J' => J' = J ∧ scrC I I')) := by
  refine ev_n (fr' := (8, [some (vr 0), some (vi (k : Int)), some (vi 1)], [vi (k : Int), vr 5])) (S' := MS I J cc ss) 4 rfl ?_
  refine ev_cv rfl rfl rfl ⟨Nat.le_of_ble_eq_true rfl, Nat.le_of_ble_eq_true rfl⟩ (sp_hasRow_5 X _ _ _ _ (k : Int) hP) ?_
  show Ev X k_X8_part (11, [some (vr 0), some (vi (k : Int)), some (vi 1)], [vi (if 0 ≤ (k : Int) ∧ (k : Int) < g 11 then 1 else 0)]) (MS I J cc ss) _
  refine ev_s1 _ (by omega) ?_
  show Ev X k_X8_part (11, [some (vr 0), some (vi (k : Int)), some (vi 1)], [vi 1]) (MS I J cc ss) _
  refine ev_cv rfl rfl rfl ⟨Nat.le_of_ble_eq_true rfl, Nat.le_of_ble_eq_true rfl⟩ (sp_reqI1 X _) ?_
  show Ev X k_X8_part (14, [some (vr 0), some (vi (k : Int)), some (vi 1)], []) (MS I J cc ss) _
  refine ev_n (fr' := (17, [some (vr 0), some (vi (k : Int)), some (vi 1)], [vi 2, vi 0, vi 1])) (S' := MS I J cc ss) 3 rfl ?_
  refine ev_cv rfl rfl rfl ⟨Nat.le_of_ble_eq_true rfl, Nat.le_of_ble_eq_true rfl⟩ (sp_within X _ 1 0 2 ) ?_
  show Ev X k_X8_part (20, [some (vr 0), some (vi (k : Int)), some (vi 1)], [vi (if 0 ≤ 1 ∧ 1 ≤ 2 then 1 else 0)]) (MS I J cc ss) _
  refine ev_s1 _ (by omega) ?_
  show Ev X k_X8_part (20, [some (vr 0), some (vi (k : Int)), some (vi 1)], [vi 1]) (MS I J cc ss) _
  refine ev_cv rfl rfl rfl ⟨Nat.le_of_ble_eq_true rfl, Nat.le_of_ble_eq_true rfl⟩ (sp_reqA1 X _) ?_
  show Ev X k_X8_part (23, [some (vr 0), some (vi (k : Int)), some (vi 1)], []) (MS I J cc ss) _
  refine ev_n (fr' := (69, [some (vr 0), some (vi (k : Int)), some (vi 1)], [vi (k : Int), vr 1])) (S' := MS I J cc ss) 5 rfl ?_
  refine ev_cv rfl rfl rfl ⟨Nat.le_of_ble_eq_true rfl, Nat.le_of_ble_eq_true rfl⟩ (sp_usesOfPart_c X _ _ _ _ (k : Int) hI hwp hwi) ?_
  show Ev X k_X8_part (72, [some (vr 0), some (vi (k : Int)), some (vi 1)], [vi (upF g (k : Int))]) (MS I J cc ss) _
  refine ev_r rfl rfl rfl ?_
  first | exact ⟨_, _, rfl, rfl, rfl, scrC.refl _⟩ | exact ⟨_, _, rfl, congrArg (fun z => Sum.inl (some (vi z))) (by first | rfl | (rw [if_pos (by omega)]) | (rw [if_neg (by omega)]) | (simp only [*]; done) | omega), rfl, scrC.refl _⟩
theorem pb_part_2 (X : AX) (I J : Nat → Nat → Int) (cc ss : Nat) {g : F1} (k : Nat) (hS : SRep I 1 g) (hP : PRep I J 5 g) (hI : IRep I J 9 g) (hws : WS g) (hwp : WP g) (hwi : WI g) (hk : (k : Int) < g 11) : Ev X k_X8_part (0, [some (vr 0), some (vi (k : Int)), some (vi 2)], []) (MS I J cc ss) (PV cc ss (some (vi (mkF g (k : Int) (g 308).toNat))) (fun I' J' => J' = J ∧ scrC I I')) := by
  refine ev_n (fr' := (8, [some (vr 0), some (vi (k : Int)), some (vi 2)], [vi (k : Int), vr 5])) (S' := MS I J cc ss) 4 rfl ?_
  refine ev_cv rfl rfl rfl ⟨Nat.le_of_ble_eq_true rfl, Nat.le_of_ble_eq_true rfl⟩ (sp_hasRow_5 X _ _ _ _ (k : Int) hP) ?_
  show Ev X k_X8_part (11, [some (vr 0), some (vi (k : Int)), some (vi 2)], [vi (if 0 ≤ (k : Int) ∧ (k : Int) < g 11 then 1 else 0)]) (MS I J cc ss) _
  refine ev_s1 _ (by omega) ?_
  show Ev X k_X8_part (11, [some (vr 0), some (vi (k : Int)), some (vi 2)], [vi 1]) (MS I J cc ss) _
  refine ev_cv rfl rfl rfl ⟨Nat.le_of_ble_eq_true rfl, Nat.le_of_ble_eq_true rfl⟩ (sp_reqI1 X _) ?_
  show Ev X k_X8_part (14, [some (vr 0), some (vi (k : Int)), some (vi 2)], []) (MS I J cc ss) _
  refine ev_n (fr' := (17, [some (vr 0), some (vi (k : Int)), some (vi 2)], [vi 2, vi 0, vi 2])) (S' := MS I J cc ss) 3 rfl ?_
  refine ev_cv rfl rfl rfl ⟨Nat.le_of_ble_eq_true rfl, Nat.le_of_ble_eq_true rfl⟩ (sp_within X _ 2 0 2 ) ?_
  show Ev X k_X8_part (20, [some (vr 0), some (vi (k : Int)), some (vi 2)], [vi (if 0 ≤ 2 ∧ 2 ≤ 2 then 1 else 0)]) (MS I J cc ss) _
  refine ev_s1 _ (by omega) ?_
  show Ev X k_X8_part (20, [some (vr 0), some (vi (k : Int)), some (vi 2)], [vi 1]) (MS I J cc ss) _
  refine ev_cv rfl rfl rfl ⟨Nat.le_of_ble_eq_true rfl, Nat.le_of_ble_eq_true rfl⟩ (sp_reqA1 X _) ?_
  show Ev X k_X8_part (23, [some (vr 0), some (vi (k : Int)), some (vi 2)], []) (MS I J cc ss) _
  refine ev_n (fr' := (78, [some (vr 0), some (vi (k : Int)), some (vi 2)], [vi (k : Int), vr 1])) (S' := MS I J cc ss) 5 rfl ?_
  refine ev_cv rfl rfl rfl ⟨Nat.le_of_ble_eq_true rfl, Nat.le_of_ble_eq_true rfl⟩ (sp_iconsWithPart X _ _ _ _ (k : Int) hI hwp hwi) ?_
  show Ev X k_X8_part (81, [some (vr 0), some (vi (k : Int)), some (vi 2)], [vi (mkF g (k : Int) (g 308).toNat)]) (MS I J cc ss) _
  refine ev_r rfl rfl rfl ?_
  first | exact ⟨_, _, rfl, rfl, rfl, scrC.refl _⟩ | exact ⟨_, _, rfl, congrArg (fun z => Sum.inl (some (vi z))) (by first | rfl | (rw [if_pos (by omega)]) | (rw [if_neg (by omega)]) | (simp only [*]; done) | omega), rfl, scrC.refl _⟩
theorem pb_shape_x (X : AX) (I J : Nat → Nat → Int) (cc ss : Nat) {g : F1} (y t z : Int) (hS : SRep I 1 g) (hP : PRep I J 5 g) (hI : IRep I J 9 g) (hws : WS g) (hwp : WP g) (hwi : WI g) (h : ¬ (0 ≤ y ∧ y < g 11 ∧ 0 ≤ t ∧ t < g (37 * y.toNat + 12))) : Ev X k_X8_shape (0, [some (vr 0), some (vi y), some (vi t), some (vi z)], []) (MS I J cc ss) (fun o T => o = .inr 2 ∧ T = MS I J (cc + 1) (ss + 6)) := by
  refine ev_n (fr' := (9, [some (vr 0), some (vi y), some (vi t), some (vi z)], [vi t, vi y, vr 5])) (S' := MS I J cc ss) 5 rfl ?_
  refine ev_cv rfl rfl rfl ⟨Nat.le_of_ble_eq_true rfl, Nat.le_of_ble_eq_true rfl⟩ (sp_hasItem_5 X _ _ _ _ y t hP hwp) ?_
  show Ev X k_X8_shape (12, [some (vr 0), some (vi y), some (vi t), some (vi z)], [vi (if 0 ≤ y ∧ y < g 11 ∧ 0 ≤ t ∧ t < g (37 * y.toNat + 12) then 1 else 0)]) (MS I J cc ss) _
  refine ev_s0 _ (h) ?_
  show Ev X k_X8_shape (12, [some (vr 0), some (vi y), some (vi t), some (vi z)], [vi 0]) (MS I J cc ss) _
  refine ev_cx rfl rfl rfl ⟨Nat.le_of_ble_eq_true rfl, Nat.le_of_ble_eq_true rfl⟩ (sp_reqI0 X _ _ _ _) rfl ?_
  exact ⟨rfl, rfl⟩
theorem pb_shape_y (X : AX) (I J : Nat → Nat → Int) (cc ss : Nat) {g : F1} (p s : Nat) (z : Int) (hS : SRep I 1 g) (hP : PRep I J 5 g) (hI : IRep I J 9 g) (hws : WS g) (hwp : WP g) (hwi : WI g) (hp : (p : Int) < g 11) (hs : (s : Int) < g (37 * p + 12)) (h : ¬ (0 ≤ z ∧ z ≤ 5)) : Ev X k_X8_shape (0, [some (vr 0), some (vi (p : Int)), some (vi (s : Int)), some (vi z)], []) (MS I J cc ss) (fun o T => o = .inr 1 ∧ T = MS I J (cc + 1) (ss + 6)) := by
  refine ev_n (fr' := (9, [some (vr 0), some (vi (p : Int)), some (vi (s : Int)), some (vi z)], [vi (s : Int), vi (p : Int), vr 5])) (S' := MS I J cc ss) 5 rfl ?_
  refine ev_cv rfl rfl rfl ⟨Nat.le_of_ble_eq_true rfl, Nat.le_of_ble_eq_true rfl⟩ (sp_hasItem_5 X _ _ _ _ (p : Int) (s : Int) hP hwp) ?_
  show Ev X k_X8_shape (12, [some (vr 0), some (vi (p : Int)), some (vi (s : Int)), some (vi z)], [vi (if 0 ≤ (p : Int) ∧ (p : Int) < g 11 ∧ 0 ≤ (s : Int) ∧ (s : Int) < g (37 * (p : Int).toNat + 12) then 1 else 0)]) (MS I J cc ss) _
  refine ev_s1 _ (⟨by omega, by omega, by omega, by rw [Int.toNat_natCast]; omega⟩) ?_
  show Ev X k_X8_shape (12, [some (vr 0), some (vi (p : Int)), some (vi (s : Int)), some (vi z)], [vi 1]) (MS I J cc ss) _
  refine ev_cv rfl rfl rfl ⟨Nat.le_of_ble_eq_true rfl, Nat.le_of_ble_eq_true rfl⟩ (sp_reqI1 X _) ?_
  show Ev X k_X8_shape (15, [some (vr 0), some (vi (p : Int)), some (vi (s : Int)), some (vi z)], []) (MS I J cc ss) _
  refine ev_n (fr' := (18, [some (vr 0), some (vi (p : Int)), some (vi (s : Int)), some (vi z)], [vi 5, vi 0, vi z])) (S' := MS I J cc ss) 3 rfl ?_
  refine ev_cv rfl rfl rfl ⟨Nat.le_of_ble_eq_true rfl, Nat.le_of_ble_eq_true rfl⟩ (sp_within X _ z 0 5 ) ?_
  show Ev X k_X8_shape (21, [some (vr 0), some (vi (p : Int)), some (vi (s : Int)), some (vi z)], [vi (if 0 ≤ z ∧ z ≤ 5 then 1 else 0)]) (MS I J cc ss) _
  refine ev_s0 _ (by omega) ?_
  show Ev X k_X8_shape (21, [some (vr 0), some (vi (p : Int)), some (vi (s : Int)), some (vi z)], [vi 0]) (MS I J cc ss) _
  refine ev_cx rfl rfl rfl ⟨Nat.le_of_ble_eq_true rfl, Nat.le_of_ble_eq_true rfl⟩ (sp_reqA0 X _ _ _ _) rfl ?_
  exact ⟨rfl, rfl⟩
theorem pb_shape (X : AX) (I J : Nat → Nat → Int) (cc ss : Nat) {g : F1} (p s w : Nat) (hS : SRep I 1 g) (hP : PRep I J 5 g) (hI : IRep I J 9 g) (hws : WS g) (hwp : WP g) (hwi : WI g) (hp : (p : Int) < g 11) (hs : (s : Int) < g (37 * p + 12)) (hw : w ≤ 5) : Ev X k_X8_shape (0, [some (vr 0), some (vi (p : Int)), some (vi (s : Int)), some (vi (w : Int))], []) (MS I J cc ss) (PV cc ss (some (vi (g (37 * p + 6 * s + w + 13)))) (fun I' J' => J' = J ∧ scrC I I')) := by
  refine ev_n (fr' := (9, [some (vr 0), some (vi (p : Int)), some (vi (s : Int)), some (vi (w : Int))], [vi (s : Int), vi (p : Int), vr 5])) (S' := MS I J cc ss) 5 rfl ?_
  refine ev_cv rfl rfl rfl ⟨Nat.le_of_ble_eq_true rfl, Nat.le_of_ble_eq_true rfl⟩ (sp_hasItem_5 X _ _ _ _ (p : Int) (s : Int) hP hwp) ?_
  show Ev X k_X8_shape (12, [some (vr 0), some (vi (p : Int)), some (vi (s : Int)), some (vi (w : Int))], [vi (if 0 ≤ (p : Int) ∧ (p : Int) < g 11 ∧ 0 ≤ (s : Int) ∧ (s : Int) < g (37 * (p : Int).toNat + 12) then 1 else 0)]) (MS I J cc ss) _
  refine ev_s1 _ (⟨by omega, by omega, by omega, by rw [Int.toNat_natCast]; omega⟩) ?_
  show Ev X k_X8_shape (12, [some (vr 0), some (vi (p : Int)), some (vi (s : Int)), some (vi (w : Int))], [vi 1]) (MS I J cc ss) _
  refine ev_cv rfl rfl rfl ⟨Nat.le_of_ble_eq_true rfl, Nat.le_of_ble_eq_true rfl⟩ (sp_reqI1 X _) ?_
  show Ev X k_X8_shape (15, [some (vr 0), some (vi (p : Int)), some (vi (s : Int)), some (vi (w : Int))], []) (MS I J cc ss) _
  refine ev_n (fr' := (18, [some (vr 0), some (vi (p : Int)), some (vi (s : Int)), some (vi (w : Int))], [vi 5, vi 0, vi (w : Int)])) (S' := MS I J cc ss) 3 rfl ?_
  refine ev_cv rfl rfl rfl ⟨Nat.le_of_ble_eq_true rfl, Nat.le_of_ble_eq_true rfl⟩ (sp_within X _ (w : Int) 0 5 ) ?_
  show Ev X k_X8_shape (21, [some (vr 0), some (vi (p : Int)), some (vi (s : Int)), some (vi (w : Int))], [vi (if 0 ≤ (w : Int) ∧ (w : Int) ≤ 5 then 1 else 0)]) (MS I J cc ss) _
  refine ev_s1 _ (by omega) ?_
  show Ev X k_X8_shape (21, [some (vr 0), some (vi (p : Int)), some (vi (s : Int)), some (vi (w : Int))], [vi 1]) (MS I J cc ss) _
  refine ev_cv rfl rfl rfl ⟨Nat.le_of_ble_eq_true rfl, Nat.le_of_ble_eq_true rfl⟩ (sp_reqA1 X _) ?_
  show Ev X k_X8_shape (24, [some (vr 0), some (vi (p : Int)), some (vi (s : Int)), some (vi (w : Int))], []) (MS I J cc ss) _
  refine ev_n (fr' := (34, [some (vr 0), some (vi (p : Int)), some (vi (s : Int)), some (vi (w : Int))], [vi (w : Int), vi (s : Int), vi (p : Int), vr 5])) (S' := MS I J cc ss) 6 rfl ?_
  refine ev_cv rfl rfl rfl ⟨Nat.le_of_ble_eq_true rfl, Nat.le_of_ble_eq_true rfl⟩ (sp_number_5 X _ _ _ _ p s w hP hwp (by omega) (by omega) (by omega)) ?_
  show Ev X k_X8_shape (37, [some (vr 0), some (vi (p : Int)), some (vi (s : Int)), some (vi (w : Int))], [vi (g (37 * p + 6 * s + w + 13))]) (MS I J cc ss) _
  refine ev_r rfl rfl rfl ?_
  first | exact ⟨_, _, rfl, rfl, rfl, scrC.refl _⟩ | exact ⟨_, _, rfl, congrArg (fun z => Sum.inl (some (vi z))) (by first | rfl | (rw [if_pos (by omega)]) | (rw [if_neg (by omega)]) | (simp only [*]; done) | omega), rfl, scrC.refl _⟩
theorem pb_use_x (X : AX) (I J : Nat → Nat → Int) (cc ss : Nat) {g : F1} (y t z : Int) (hS : SRep I 1 g) (hP : PRep I J 5 g) (hI : IRep I J 9 g) (hws : WS g) (hwp : WP g) (hwi : WI g) (h : ¬ (0 ≤ y ∧ y < g 308 ∧ 0 ≤ t ∧ t < g (19 * y.toNat + 309))) : Ev X k_X8_use (0, [some (vr 0), some (vi y), some (vi t), some (vi z)], []) (MS I J cc ss) (fun o T => o = .inr 2 ∧ T = MS I J (cc + 1) (ss + 6)) := by
  refine ev_n (fr' := (9, [some (vr 0), some (vi y), some (vi t), some (vi z)], [vi t, vi y, vr 9])) (S' := MS I J cc ss) 5 rfl ?_
  refine ev_cv rfl rfl rfl ⟨Nat.le_of_ble_eq_true rfl, Nat.le_of_ble_eq_true rfl⟩ (sp_hasItem_9 X _ _ _ _ y t hI hwi) ?_
  show Ev X k_X8_use (12, [some (vr 0), some (vi y), some (vi t), some (vi z)], [vi (if 0 ≤ y ∧ y < g 308 ∧ 0 ≤ t ∧ t < g (19 * y.toNat + 309) then 1 else 0)]) (MS I J cc ss) _
  refine ev_s0 _ (h) ?_
  show Ev X k_X8_use (12, [some (vr 0), some (vi y), some (vi t), some (vi z)], [vi 0]) (MS I J cc ss) _
  refine ev_cx rfl rfl rfl ⟨Nat.le_of_ble_eq_true rfl, Nat.le_of_ble_eq_true rfl⟩ (sp_reqI0 X _ _ _ _) rfl ?_
  exact ⟨rfl, rfl⟩
theorem pb_use_y (X : AX) (I J : Nat → Nat → Int) (cc ss : Nat) {g : F1} (p s : Nat) (z : Int) (hS : SRep I 1 g) (hP : PRep I J 5 g) (hI : IRep I J 9 g) (hws : WS g) (hwp : WP g) (hwi : WI g) (hp : (p : Int) < g 308) (hs : (s : Int) < g (19 * p + 309)) (h : ¬ (0 ≤ z ∧ z ≤ 2)) : Ev X k_X8_use (0, [some (vr 0), some (vi (p : Int)), some (vi (s : Int)), some (vi z)], []) (MS I J cc ss) (fun o T => o = .inr 1 ∧ T = MS I J (cc + 1) (ss + 6)) := by
  refine ev_n (fr' := (9, [some (vr 0), some (vi (p : Int)), some (vi (s : Int)), some (vi z)], [vi (s : Int), vi (p : Int), vr 9])) (S' := MS I J cc ss) 5 rfl ?_
  refine ev_cv rfl rfl rfl ⟨Nat.le_of_ble_eq_true rfl, Nat.le_of_ble_eq_true rfl⟩ (sp_hasItem_9 X _ _ _ _ (p : Int) (s : Int) hI hwi) ?_
  show Ev X k_X8_use (12, [some (vr 0), some (vi (p : Int)), some (vi (s : Int)), some (vi z)], [vi (if 0 ≤ (p : Int) ∧ (p : Int) < g 308 ∧ 0 ≤ (s : Int) ∧ (s : Int) < g (19 * (p : Int).toNat + 309) then 1 else 0)]) (MS I J cc ss) _
  refine ev_s1 _ (⟨by omega, by omega, by omega, by rw [Int.toNat_natCast]; omega⟩) ?_
  show Ev X k_X8_use (12, [some (vr 0), some (vi (p : Int)), some (vi (s : Int)), some (vi z)], [vi 1]) (MS I J cc ss) _
  refine ev_cv rfl rfl rfl ⟨Nat.le_of_ble_eq_true rfl, Nat.le_of_ble_eq_true rfl⟩ (sp_reqI1 X _) ?_
  show Ev X k_X8_use (15, [some (vr 0), some (vi (p : Int)), some (vi (s : Int)), some (vi z)], []) (MS I J cc ss) _
  refine ev_n (fr' := (18, [some (vr 0), some (vi (p : Int)), some (vi (s : Int)), some (vi z)], [vi 2, vi 0, vi z])) (S' := MS I J cc ss) 3 rfl ?_
  refine ev_cv rfl rfl rfl ⟨Nat.le_of_ble_eq_true rfl, Nat.le_of_ble_eq_true rfl⟩ (sp_within X _ z 0 2 ) ?_
  show Ev X k_X8_use (21, [some (vr 0), some (vi (p : Int)), some (vi (s : Int)), some (vi z)], [vi (if 0 ≤ z ∧ z ≤ 2 then 1 else 0)]) (MS I J cc ss) _
  refine ev_s0 _ (by omega) ?_
  show Ev X k_X8_use (21, [some (vr 0), some (vi (p : Int)), some (vi (s : Int)), some (vi z)], [vi 0]) (MS I J cc ss) _
  refine ev_cx rfl rfl rfl ⟨Nat.le_of_ble_eq_true rfl, Nat.le_of_ble_eq_true rfl⟩ (sp_reqA0 X _ _ _ _) rfl ?_
  exact ⟨rfl, rfl⟩
theorem pb_use (X : AX) (I J : Nat → Nat → Int) (cc ss : Nat) {g : F1} (p s w : Nat) (hS : SRep I 1 g) (hP : PRep I J 5 g) (hI : IRep I J 9 g) (hws : WS g) (hwp : WP g) (hwi : WI g) (hp : (p : Int) < g 308) (hs : (s : Int) < g (19 * p + 309)) (hw : w ≤ 2) : Ev X k_X8_use (0, [some (vr 0), some (vi (p : Int)), some (vi (s : Int)), some (vi (w : Int))], []) (MS I J cc ss) (PV cc ss (some (vi (g (19 * p + 3 * s + w + 310)))) (fun I' J' => J' = J ∧ scrC I I')) := by
  refine ev_n (fr' := (9, [some (vr 0), some (vi (p : Int)), some (vi (s : Int)), some (vi (w : Int))], [vi (s : Int), vi (p : Int), vr 9])) (S' := MS I J cc ss) 5 rfl ?_
  refine ev_cv rfl rfl rfl ⟨Nat.le_of_ble_eq_true rfl, Nat.le_of_ble_eq_true rfl⟩ (sp_hasItem_9 X _ _ _ _ (p : Int) (s : Int) hI hwi) ?_
  show Ev X k_X8_use (12, [some (vr 0), some (vi (p : Int)), some (vi (s : Int)), some (vi (w : Int))], [vi (if 0 ≤ (p : Int) ∧ (p : Int) < g 308 ∧ 0 ≤ (s : Int) ∧ (s : Int) < g (19 * (p : Int).toNat + 309) then 1 else 0)]) (MS I J cc ss) _
  refine ev_s1 _ (⟨by omega, by omega, by omega, by rw [Int.toNat_natCast]; omega⟩) ?_
  show Ev X k_X8_use (12, [some (vr 0), some (vi (p : Int)), some (vi (s : Int)), some (vi (w : Int))], [vi 1]) (MS I J cc ss) _
  refine ev_cv rfl rfl rfl ⟨Nat.le_of_ble_eq_true rfl, Nat.le_of_ble_eq_true rfl⟩ (sp_reqI1 X _) ?_
  show Ev X k_X8_use (15, [some (vr 0), some (vi (p : Int)), some (vi (s : Int)), some (vi (w : Int))], []) (MS I J cc ss) _
  refine ev_n (fr' := (18, [some (vr 0), some (vi (p : Int)), some (vi (s : Int)), some (vi (w : Int))], [vi 2, vi 0, vi (w : Int)])) (S' := MS I J cc ss) 3 rfl ?_
  refine ev_cv rfl rfl rfl ⟨Nat.le_of_ble_eq_true rfl, Nat.le_of_ble_eq_true rfl⟩ (sp_within X _ (w : Int) 0 2 ) ?_
  show Ev X k_X8_use (21, [some (vr 0), some (vi (p : Int)), some (vi (s : Int)), some (vi (w : Int))], [vi (if 0 ≤ (w : Int) ∧ (w : Int) ≤ 2 then 1 else 0)]) (MS I J cc ss) _
  refine ev_s1 _ (by omega) ?_
  show Ev X k_X8_use (21, [some (vr 0), some (vi (p : Int)), some (vi (s : Int)), some (vi (w : Int))], [vi 1]) (MS I J cc ss) _
  refine ev_cv rfl rfl rfl ⟨Nat.le_of_ble_eq_true rfl, Nat.le_of_ble_eq_true rfl⟩ (sp_reqA1 X _) ?_
  show Ev X k_X8_use (24, [some (vr 0), some (vi (p : Int)), some (vi (s : Int)), some (vi (w : Int))], []) (MS I J cc ss) _
  refine ev_n (fr' := (34, [some (vr 0), some (vi (p : Int)), some (vi (s : Int)), some (vi (w : Int))], [vi (w : Int), vi (s : Int), vi (p : Int), vr 9])) (S' := MS I J cc ss) 6 rfl ?_
  refine ev_cv rfl rfl rfl ⟨Nat.le_of_ble_eq_true rfl, Nat.le_of_ble_eq_true rfl⟩ (sp_number_9 X _ _ _ _ p s w hI hwi (by omega) (by omega) (by omega)) ?_
  show Ev X k_X8_use (37, [some (vr 0), some (vi (p : Int)), some (vi (s : Int)), some (vi (w : Int))], [vi (g (19 * p + 3 * s + w + 310))]) (MS I J cc ss) _
  refine ev_r rfl rfl rfl ?_
  first | exact ⟨_, _, rfl, rfl, rfl, scrC.refl _⟩ | exact ⟨_, _, rfl, congrArg (fun z => Sum.inl (some (vi z))) (by first | rfl | (rw [if_pos (by omega)]) | (rw [if_neg (by omega)]) | (simp only [*]; done) | omega), rfl, scrC.refl _⟩
theorem pb_uses_x (X : AX) (I J : Nat → Nat → Int) (cc ss : Nat) {g : F1} (y : Int) (hS : SRep I 1 g) (hP : PRep I J 5 g) (hI : IRep I J 9 g) (hws : WS g) (hwp : WP g) (hwi : WI g) (h : ¬ (0 ≤ y ∧ y < g 308)) : Ev X k_X8_uses (0, [some (vr 0), some (vi y)], []) (MS I J cc ss) (fun o T => o = .inr 2 ∧ T = MS I J (cc + 1) (ss + 6)) := by
  refine ev_n (fr' := (8, [some (vr 0), some (vi y)], [vi y, vr 9])) (S' := MS I J cc ss) 4 rfl ?_
  refine ev_cv rfl rfl rfl ⟨Nat.le_of_ble_eq_true rfl, Nat.le_of_ble_eq_true rfl⟩ (sp_hasRow_9 X _ _ _ _ y hI) ?_
  show Ev X k_X8_uses (11, [some (vr 0), some (vi y)], [vi (if 0 ≤ y ∧ y < g 308 then 1 else 0)]) (MS I J cc ss) _
  refine ev_s0 _ (h) ?_
  show Ev X k_X8_uses (11, [some (vr 0), some (vi y)], [vi 0]) (MS I J cc ss) _
  refine ev_cx rfl rfl rfl ⟨Nat.le_of_ble_eq_true rfl, Nat.le_of_ble_eq_true rfl⟩ (sp_reqI0 X _ _ _ _) rfl ?_
  exact ⟨rfl, rfl⟩
theorem pb_uses (X : AX) (I J : Nat → Nat → Int) (cc ss : Nat) {g : F1} (i : Nat) (hS : SRep I 1 g) (hP : PRep I J 5 g) (hI : IRep I J 9 g) (hws : WS g) (hwp : WP g) (hwi : WI g) (hi : (i : Int) < g 308) : Ev X k_X8_uses (0, [some (vr 0), some (vi (i : Int))], []) (MS I J cc ss) (PV cc ss (some (vi (g (19 * i + 309)))) (fun I' J' => J' = J ∧ scrC I I')) := by
  refine ev_n (fr' := (8, [some (vr 0), some (vi (i : Int))], [vi (i : Int), vr 9])) (S' := MS I J cc ss) 4 rfl ?_
  refine ev_cv rfl rfl rfl ⟨Nat.le_of_ble_eq_true rfl, Nat.le_of_ble_eq_true rfl⟩ (sp_hasRow_9 X _ _ _ _ (i : Int) hI) ?_
  show Ev X k_X8_uses (11, [some (vr 0), some (vi (i : Int))], [vi (if 0 ≤ (i : Int) ∧ (i : Int) < g 308 then 1 else 0)]) (MS I J cc ss) _
  refine ev_s1 _ (by omega) ?_
  show Ev X k_X8_uses (11, [some (vr 0), some (vi (i : Int))], [vi 1]) (MS I J cc ss) _
  refine ev_cv rfl rfl rfl ⟨Nat.le_of_ble_eq_true rfl, Nat.le_of_ble_eq_true rfl⟩ (sp_reqI1 X _) ?_
  show Ev X k_X8_uses (14, [some (vr 0), some (vi (i : Int))], []) (MS I J cc ss) _
  refine ev_n (fr' := (22, [some (vr 0), some (vi (i : Int))], [vi (i : Int), vr 9])) (S' := MS I J cc ss) 4 rfl ?_
  refine ev_cv rfl rfl rfl ⟨Nat.le_of_ble_eq_true rfl, Nat.le_of_ble_eq_true rfl⟩ (sp_itemsOf_9 X _ _ _ _ i hI hwi (by omega)) ?_
  show Ev X k_X8_uses (25, [some (vr 0), some (vi (i : Int))], [vi (g (19 * i + 309))]) (MS I J cc ss) _
  refine ev_r rfl rfl rfl ?_
  first | exact ⟨_, _, rfl, rfl, rfl, scrC.refl _⟩ | exact ⟨_, _, rfl, congrArg (fun z => Sum.inl (some (vi z))) (by first | rfl | (rw [if_pos (by omega)]) | (rw [if_neg (by omega)]) | (simp only [*]; done) | omega), rfl, scrC.refl _⟩
