/-! THE CLASS loads (printed by gen/g98g.py) -/
/-- one word more of text -/
def apF (tx : F1) (fl : Nat) (v : Int) : F1 := fun k => if k < 4 * fl then tx k else byF v (k % 4)
def TXc (I : F2) (tx : F1) (fl : Nat) : Prop := I 112 1 = (fl : Int) ∧ fl ≤ 225 ∧ ∀ k, k < 4 * fl → byF (I 113 (k / 4)) (k % 4) = tx k
theorem TXc.tb {I : F2} {tx : F1} {fl n : Nat} (h : TXc I tx fl) (hn : n ≤ 4 * fl) : TB I tx n := ⟨fl, h.1, h.2.1, hn, fun k hk => h.2.2 k (by omega)⟩
theorem TXc.put {I : F2} {tx : F1} {fl : Nat} {v w : Int} (h : TXc I tx fl) (hf : fl < 225) (hw : w = (fl : Int) + 1) : TXc (up2 (up2 I 113 fl v) 112 1 w) (apF tx fl v) (fl + 1) := by
  refine ⟨by rw [up2_same]; omega, by omega, fun k hk => ?_⟩
  rw [up2_row _ _ _ _ (by decide)]
  unfold apF
  by_cases e : k < 4 * fl
  · rw [if_pos e, up2_ne2 _ _ _ _ (by omega)]; exact h.2.2 k e
  · rw [if_neg e, show k / 4 = fl by omega, up2_same]
theorem TXc.cell {I I' : F2} {tx : F1} {fl : Nat} (h : TXc I tx fl) (e1 : I' 112 = I 112) (e2 : I' 113 = I 113) : TXc I' tx fl := by
  unfold TXc; rw [e1, e2]; exact h
def onlyX (I I' : F2) : Prop := ∀ a, a ≠ 112 → a ≠ 113 → I' a = I a
theorem onlyX.refl (I : F2) : onlyX I I := fun _ _ _ => rfl
theorem onlyX.put {I0 I : F2} {fl : Nat} {v w : Int} (h : onlyX I0 I) : onlyX I0 (up2 (up2 I 113 fl v) 112 1 w) := fun a h1 h2 => (up2_row _ _ _ _ h1).trans ((up2_row _ _ _ _ h2).trans (h a h1 h2))
theorem sp_put (X : AX) (I J : Nat → Nat → Int) (cc ss : Nat) (v : Int) {tx : F1} {fl : Nat} (hX : TXc I tx fl) (hf : fl < 225) : Ev X k_X6_put (0, [some (vr 112), some (vi v)], []) (MS I J cc ss) (fun o T => o = .inl none ∧ T = MS (up2 (up2 I 113 fl v) 112 1 ((fl : Int) + 1)) J cc ss) := by
  refine ev_n (fr' := (4, [some (vr 112), some (vi v)], [vi (I 112 1)])) (S' := MS I J cc ss) 2 rfl ?_
  refine ev_eqi (hX.1) ?_
  show Ev X k_X6_put (4, [some (vr 112), some (vi v)], [vi (fl : Int)]) (MS I J cc ss) _
  refine ev_n (fr' := (12, [some (vr 112), some (vi v)], [vi 224, vi 0, vi (fl : Int)])) (S' := MS I J cc ss) 6 rfl ?_
  refine ev_cv rfl rfl rfl ⟨Nat.le_of_ble_eq_true rfl, Nat.le_of_ble_eq_true rfl⟩ (sp_within X _ (fl : Int) 0 224 ) ?_
  show Ev X k_X6_put (15, [some (vr 112), some (vi v)], [vi (if 0 ≤ (fl : Int) ∧ (fl : Int) ≤ 224 then 1 else 0)]) (MS I J cc ss) _
  refine ev_beq _ rfl (by decide) (fun (g1 : ¬ (0 ≤ (fl : Int) ∧ (fl : Int) ≤ 224)) => False.elim (g1 (by omega))) (fun (g1 : 0 ≤ (fl : Int) ∧ (fl : Int) ≤ 224) => ?_)
  show Ev X k_X6_put (18, [some (vr 112), some (vi v)], []) (MS I J cc ss) _
  refine ev_n (fr' := (26, [some (vr 112), some (vi v)], [vi (I 112 1), vr 113])) (S' := MS I J cc ss) 4 rfl ?_
  refine ev_eqi (hX.1) ?_
  show Ev X k_X6_put (26, [some (vr 112), some (vi v)], [vi (fl : Int), vr 113]) (MS I J cc ss) _
  refine ev_n (fr' := (27, [some (vr 112), some (vi v)], [vi v, vi (fl : Int), vr 113])) (S' := MS I J cc ss) 1 rfl ?_
  refine ev_iasN (j := fl) rfl rfl (by omega) (by omega) ?_
  show Ev X k_X6_put (28, [some (vr 112), some (vi v)], []) (MS (up2 I 113 fl v) J cc ss) _
  refine ev_n (fr' := (33, [some (vr 112), some (vi v)], [vi (I 112 1), vr 112])) (S' := MS (up2 I 113 fl v) J cc ss) 3 rfl ?_
  refine ev_eqi (hX.1) ?_
  show Ev X k_X6_put (33, [some (vr 112), some (vi v)], [vi (fl : Int), vr 112]) (MS (up2 I 113 fl v) J cc ss) _
  refine ev_n (fr' := (34, [some (vr 112), some (vi v)], [vi 1, vi (fl : Int), vr 112])) (S' := MS (up2 I 113 fl v) J cc ss) 1 rfl ?_
  refine ev_add (z := (fl : Int) + 1) rfl (by omega) (by omega) (by omega) ?_
  show Ev X k_X6_put (35, [some (vr 112), some (vi v)], [vi ((fl : Int) + 1), vr 112]) (MS (up2 I 113 fl v) J cc ss) _
  refine ev_n (fr' := (38, [some (vr 112), some (vi v)], [])) (S' := MS (up2 (up2 I 113 fl v) 112 1 ((fl : Int) + 1)) J cc ss) 1 rfl ?_
  refine ev_r rfl rfl rfl ?_
  exact ⟨rfl, rfl⟩
theorem sp_tlen (X : AX) (I J : Nat → Nat → Int) (cc ss : Nat) {tx : F1} {fl : Nat} (hX : TXc I tx fl) : Ev X k_X6_length (0, [some (vr 112)], []) (MS I J cc ss) (fun o T => o = .inl (some (vi (4 * (fl : Int)))) ∧ T = MS I J cc ss) := by
  have h225 := hX.2.1
  refine ev_n (fr' := (4, [some (vr 112)], [vi (I 112 1)])) (S' := MS I J cc ss) 2 rfl ?_
  refine ev_eqi (hX.1) ?_
  show Ev X k_X6_length (4, [some (vr 112)], [vi (fl : Int)]) (MS I J cc ss) _
  refine ev_n (fr' := (5, [some (vr 112)], [vi 4, vi (fl : Int)])) (S' := MS I J cc ss) 1 rfl ?_
  refine ev_mul (z := 4 * (fl : Int)) rfl (by omega) (by omega) (by omega) ?_
  show Ev X k_X6_length (6, [some (vr 112)], [vi (4 * (fl : Int))]) (MS I J cc ss) _
  refine ev_r rfl rfl rfl ?_
  exact ⟨rfl, rfl⟩
theorem pb_append_x (X : AX) (I J : Nat → Nat → Int) (cc ss : Nat) (v0 v1 v2 v3 v4 : Int) {tx : F1} {fl : Nat} (hX : TXc I tx fl) (h : ¬ 4 * (fl : Int) + 20 ≤ 900) : Ev X k_X8_append (0, [some (vr 0), some (vi v0), some (vi v1), some (vi v2), some (vi v3), some (vi v4)], []) (MS I J cc ss) (fun o T => o = .inr 0 ∧ T = MS I J (cc + 1) (ss + 6)) := by
  have h225 := hX.2.1
  refine ev_n (fr' := (7, [some (vr 0), some (vi v0), some (vi v1), some (vi v2), some (vi v3), some (vi v4)], [vr 112])) (S' := MS I J cc ss) 3 rfl ?_
  refine ev_cv rfl rfl rfl ⟨Nat.le_of_ble_eq_true rfl, Nat.le_of_ble_eq_true rfl⟩ (sp_tlen X _ _ _ _ hX) ?_
  show Ev X k_X8_append (10, [some (vr 0), some (vi v0), some (vi v1), some (vi v2), some (vi v3), some (vi v4)], [vi (4 * (fl : Int))]) (MS I J cc ss) _
  refine ev_n (fr' := (12, [some (vr 0), some (vi v0), some (vi v1), some (vi v2), some (vi v3), some (vi v4)], [vi 20, vi (4 * (fl : Int))])) (S' := MS I J cc ss) 1 rfl ?_
  refine ev_add (z := 4 * (fl : Int) + 20) rfl (by omega) (by omega) (by omega) ?_
  show Ev X k_X8_append (13, [some (vr 0), some (vi v0), some (vi v1), some (vi v2), some (vi v3), some (vi v4)], [vi (4 * (fl : Int) + 20)]) (MS I J cc ss) _
  refine ev_n (fr' := (16, [some (vr 0), some (vi v0), some (vi v1), some (vi v2), some (vi v3), some (vi v4)], [vi 900, vi (4 * (fl : Int) + 20)])) (S' := MS I J cc ss) 1 rfl ?_
  refine ev_ic (c := .gt) (off := 7) rfl (by decide) (fun (g1 : 900 < 4 * (fl : Int) + 20) => ?_) (fun (g1 : ¬ (900 < 4 * (fl : Int) + 20)) => False.elim (by omega))
  show Ev X k_X8_append (23, [some (vr 0), some (vi v0), some (vi v1), some (vi v2), some (vi v3), some (vi v4)], []) (MS I J cc ss) _
  refine ev_n (fr' := (24, [some (vr 0), some (vi v0), some (vi v1), some (vi v2), some (vi v3), some (vi v4)], [vi 0])) (S' := MS I J cc ss) 1 rfl ?_
  refine ev_cx rfl rfl rfl ⟨Nat.le_of_ble_eq_true rfl, Nat.le_of_ble_eq_true rfl⟩ (sp_reqS0 X _ _ _ _) rfl ?_
  exact ⟨rfl, rfl⟩
theorem pb_append (X : AX) (I J : Nat → Nat → Int) (cc ss : Nat) (v0 v1 v2 v3 v4 : Int) {tx : F1} {fl : Nat} (hX : TXc I tx fl) (h : 4 * (fl : Int) + 20 ≤ 900) : Ev X k_X8_append (0, [some (vr 0), some (vi v0), some (vi v1), some (vi v2), some (vi v3), some (vi v4)], []) (MS I J cc ss) (PV cc ss (some (vi (4 * ((fl + 5 : Nat) : Int)))) (fun I' J' => J' = J ∧ onlyX I I' ∧ TXc I' (apF (apF (apF (apF (apF tx fl v0) (fl + 1) v1) (fl + 1 + 1) v2) (fl + 1 + 1 + 1) v3) (fl + 1 + 1 + 1 + 1) v4) (fl + 5))) := by
  have h225 := hX.2.1
  have hO := onlyX.refl I
  refine ev_n (fr' := (7, [some (vr 0), some (vi v0), some (vi v1), some (vi v2), some (vi v3), some (vi v4)], [vr 112])) (S' := MS I J cc ss) 3 rfl ?_
  refine ev_cv rfl rfl rfl ⟨Nat.le_of_ble_eq_true rfl, Nat.le_of_ble_eq_true rfl⟩ (sp_tlen X _ _ _ _ hX) ?_
  show Ev X k_X8_append (10, [some (vr 0), some (vi v0), some (vi v1), some (vi v2), some (vi v3), some (vi v4)], [vi (4 * (fl : Int))]) (MS I J cc ss) _
  refine ev_n (fr' := (12, [some (vr 0), some (vi v0), some (vi v1), some (vi v2), some (vi v3), some (vi v4)], [vi 20, vi (4 * (fl : Int))])) (S' := MS I J cc ss) 1 rfl ?_
  refine ev_add (z := 4 * (fl : Int) + 20) rfl (by omega) (by omega) (by omega) ?_
  show Ev X k_X8_append (13, [some (vr 0), some (vi v0), some (vi v1), some (vi v2), some (vi v3), some (vi v4)], [vi (4 * (fl : Int) + 20)]) (MS I J cc ss) _
  refine ev_n (fr' := (16, [some (vr 0), some (vi v0), some (vi v1), some (vi v2), some (vi v3), some (vi v4)], [vi 900, vi (4 * (fl : Int) + 20)])) (S' := MS I J cc ss) 1 rfl ?_
  refine ev_ic (c := .gt) (off := 7) rfl (by decide) (fun (g1 : 900 < 4 * (fl : Int) + 20) => False.elim (by omega)) (fun (g1 : ¬ (900 < 4 * (fl : Int) + 20)) => ?_)
  show Ev X k_X8_append (19, [some (vr 0), some (vi v0), some (vi v1), some (vi v2), some (vi v3), some (vi v4)], []) (MS I J cc ss) _
  refine ev_n (fr' := (24, [some (vr 0), some (vi v0), some (vi v1), some (vi v2), some (vi v3), some (vi v4)], [vi 1])) (S' := MS I J cc ss) 2 rfl ?_
  refine ev_cv rfl rfl rfl ⟨Nat.le_of_ble_eq_true rfl, Nat.le_of_ble_eq_true rfl⟩ (sp_reqS1 X _) ?_
  show Ev X k_X8_append (27, [some (vr 0), some (vi v0), some (vi v1), some (vi v2), some (vi v3), some (vi v4)], []) (MS I J cc ss) _
  refine ev_n (fr' := (35, [some (vr 0), some (vi v0), some (vi v1), some (vi v2), some (vi v3), some (vi v4)], [vi v0, vr 112])) (S' := MS I J cc ss) 4 rfl ?_
  refine ev_cp rfl rfl rfl ⟨Nat.le_of_ble_eq_true rfl, Nat.le_of_ble_eq_true rfl⟩ ((sp_put X _ _ _ _ v0 hX (by omega)).mono (fun o T h => (⟨_, _, h.2, h.1, rfl, hX.put (by omega) rfl, hO.put⟩ : PV _ _ none (fun I' J' => J' = _ ∧ TXc I' _ (fl + 1) ∧ onlyX I I') o T))) (fun I1 J q2 => ?_)
  obtain ⟨rfl, hX, hO⟩ := q2
  show Ev X k_X8_append (38, [some (vr 0), some (vi v0), some (vi v1), some (vi v2), some (vi v3), some (vi v4)], []) (MS I1 J cc ss) _
  refine ev_n (fr' := (46, [some (vr 0), some (vi v0), some (vi v1), some (vi v2), some (vi v3), some (vi v4)], [vi v1, vr 112])) (S' := MS I1 J cc ss) 4 rfl ?_
  refine ev_cp rfl rfl rfl ⟨Nat.le_of_ble_eq_true rfl, Nat.le_of_ble_eq_true rfl⟩ ((sp_put X _ _ _ _ v1 hX (by omega)).mono (fun o T h => (⟨_, _, h.2, h.1, rfl, hX.put (by omega) rfl, hO.put⟩ : PV _ _ none (fun I' J' => J' = _ ∧ TXc I' _ ((fl + 1) + 1) ∧ onlyX I I') o T))) (fun I3 J q4 => ?_)
  obtain ⟨rfl, hX, hO⟩ := q4
  show Ev X k_X8_append (49, [some (vr 0), some (vi v0), some (vi v1), some (vi v2), some (vi v3), some (vi v4)], []) (MS I3 J cc ss) _
  refine ev_n (fr' := (57, [some (vr 0), some (vi v0), some (vi v1), some (vi v2), some (vi v3), some (vi v4)], [vi v2, vr 112])) (S' := MS I3 J cc ss) 4 rfl ?_
  refine ev_cp rfl rfl rfl ⟨Nat.le_of_ble_eq_true rfl, Nat.le_of_ble_eq_true rfl⟩ ((sp_put X _ _ _ _ v2 hX (by omega)).mono (fun o T h => (⟨_, _, h.2, h.1, rfl, hX.put (by omega) rfl, hO.put⟩ : PV _ _ none (fun I' J' => J' = _ ∧ TXc I' _ ((fl + 2) + 1) ∧ onlyX I I') o T))) (fun I5 J q6 => ?_)
  obtain ⟨rfl, hX, hO⟩ := q6
  show Ev X k_X8_append (60, [some (vr 0), some (vi v0), some (vi v1), some (vi v2), some (vi v3), some (vi v4)], []) (MS I5 J cc ss) _
  refine ev_n (fr' := (69, [some (vr 0), some (vi v0), some (vi v1), some (vi v2), some (vi v3), some (vi v4)], [vi v3, vr 112])) (S' := MS I5 J cc ss) 4 rfl ?_
  refine ev_cp rfl rfl rfl ⟨Nat.le_of_ble_eq_true rfl, Nat.le_of_ble_eq_true rfl⟩ ((sp_put X _ _ _ _ v3 hX (by omega)).mono (fun o T h => (⟨_, _, h.2, h.1, rfl, hX.put (by omega) rfl, hO.put⟩ : PV _ _ none (fun I' J' => J' = _ ∧ TXc I' _ ((fl + 3) + 1) ∧ onlyX I I') o T))) (fun I7 J q8 => ?_)
  obtain ⟨rfl, hX, hO⟩ := q8
  show Ev X k_X8_append (72, [some (vr 0), some (vi v0), some (vi v1), some (vi v2), some (vi v3), some (vi v4)], []) (MS I7 J cc ss) _
  refine ev_n (fr' := (81, [some (vr 0), some (vi v0), some (vi v1), some (vi v2), some (vi v3), some (vi v4)], [vi v4, vr 112])) (S' := MS I7 J cc ss) 4 rfl ?_
  refine ev_cp rfl rfl rfl ⟨Nat.le_of_ble_eq_true rfl, Nat.le_of_ble_eq_true rfl⟩ ((sp_put X _ _ _ _ v4 hX (by omega)).mono (fun o T h => (⟨_, _, h.2, h.1, rfl, hX.put (by omega) rfl, hO.put⟩ : PV _ _ none (fun I' J' => J' = _ ∧ TXc I' _ ((fl + 4) + 1) ∧ onlyX I I') o T))) (fun I9 J q10 => ?_)
  obtain ⟨rfl, hX, hO⟩ := q10
  show Ev X k_X8_append (84, [some (vr 0), some (vi v0), some (vi v1), some (vi v2), some (vi v3), some (vi v4)], []) (MS I9 J cc ss) _
  refine ev_n (fr' := (91, [some (vr 0), some (vi v0), some (vi v1), some (vi v2), some (vi v3), some (vi v4)], [vr 112])) (S' := MS I9 J cc ss) 3 rfl ?_
  refine ev_cv rfl rfl rfl ⟨Nat.le_of_ble_eq_true rfl, Nat.le_of_ble_eq_true rfl⟩ (sp_tlen X _ _ _ _ hX) ?_
  show Ev X k_X8_append (94, [some (vr 0), some (vi v0), some (vi v1), some (vi v2), some (vi v3), some (vi v4)], [vi (4 * ((fl + 5) : Int))]) (MS I9 J cc ss) _
  refine ev_r rfl rfl rfl ?_
  exact ⟨_, _, rfl, rfl, rfl, hO, hX⟩
theorem sp_readSet (X : AX) (I J : Nat → Nat → Int) (cc ss : Nat) {tx : F1} {n : Nat} (hT : TB I tx n) (hwd : WD I 114) {d : F1} (hw : WF d) (hd0 : d 0 = 0) (hd11 : d 11 = 0) (hd308 : d 308 = 0) : Ev X k_X4_readSet (0, [some (vr 111), some (vi (n : Int)), none, none, none, none], []) (MS I J cc ss) (PZ cc ss (fun z I' J' => (∀ c, c < 114 ∨ 126 ≤ c → c ≠ 111 → I' c = I c) ∧ (∀ c, c < 114 ∨ 126 ≤ c → J' c = J c) ∧ WD I' 114 ∧ match pSet true tx n 900 d 0 with | .inl d' => z = 1 ∧ I' 111 7 = -1 ∧ SetR I' J' 114 d' ∧ WF d' | .inr (c, s) => z = 0 ∧ ER I' c s)) := by
  refine ev_n (fr' := (2, [some (vr 111), some (vi (n : Int)), none, none, none, none], [vi (n : Int), vr 111])) (S' := MS I J cc ss) 2 rfl ?_
  refine ev_n (fr' := (5, [some (vr 111), some (vi (n : Int)), none, none, none, none], [])) (S' := MS (up2 I 111 2 (n : Int)) J cc ss) 1 rfl ?_
  refine ev_n (fr' := (7, [some (vr 111), some (vi (n : Int)), none, none, none, none], [vi 0, vr 111])) (S' := MS (up2 I 111 2 (n : Int)) J cc ss) 2 rfl ?_
  refine ev_n (fr' := (10, [some (vr 111), some (vi (n : Int)), none, none, none, none], [])) (S' := MS (up2 (up2 I 111 2 (n : Int)) 111 3 0) J cc ss) 1 rfl ?_
  refine ev_n (fr' := (12, [some (vr 111), some (vi (n : Int)), none, none, none, none], [vi 0, vr 111])) (S' := MS (up2 (up2 I 111 2 (n : Int)) 111 3 0) J cc ss) 2 rfl ?_
  refine ev_n (fr' := (15, [some (vr 111), some (vi (n : Int)), none, none, none, none], [])) (S' := MS (up2 (up2 (up2 I 111 2 (n : Int)) 111 3 0) 111 6 0) J cc ss) 1 rfl ?_
  refine ev_n (fr' := (17, [some (vr 111), some (vi (n : Int)), none, none, none, none], [vi (-1), vr 111])) (S' := MS (up2 (up2 (up2 I 111 2 (n : Int)) 111 3 0) 111 6 0) J cc ss) 2 rfl ?_
  refine ev_n (fr' := (20, [some (vr 111), some (vi (n : Int)), none, none, none, none], [])) (S' := MS (up2 (up2 (up2 (up2 I 111 2 (n : Int)) 111 3 0) 111 6 0) 111 7 (-1)) J cc ss) 1 rfl ?_
  refine ev_n (fr' := (24, [some (vr 111), some (vi (n : Int)), none, none, none, none], [vr 114])) (S' := MS (up2 (up2 (up2 (up2 I 111 2 (n : Int)) 111 3 0) 111 6 0) 111 7 (-1)) J cc ss) 2 rfl ?_
  refine ev_cv rfl rfl rfl ⟨Nat.le_of_ble_eq_true rfl, Nat.le_of_ble_eq_true rfl⟩ (sp_clear X _ _ _ _) ?_
  show Ev X k_X4_readSet (27, [some (vr 111), some (vi (n : Int)), none, none, none, none], []) (MS (up2 (up2 (up2 (up2 (up2 (up2 (up2 I 111 2 (n : Int)) 111 3 0) 111 6 0) 111 7 (-1)) 115 2 0) 118 4 0) 122 4 0) J cc ss) _
  refine ev_n (fr' := (29, [some (vr 111), some (vi (n : Int)), some (vi 0), none, none, none], [])) (S' := MS (up2 (up2 (up2 (up2 (up2 (up2 (up2 I 111 2 (n : Int)) 111 3 0) 111 6 0) 111 7 (-1)) 115 2 0) 118 4 0) 122 4 0) J cc ss) 2 rfl ?_
  have eD : ∀ c, c ≠ 115 → c ≠ 118 → c ≠ 122 → c ≠ 111 → (up2 (up2 (up2 (up2 (up2 (up2 (up2 I 111 2 (n : Int)) 111 3 0) 111 6 0) 111 7 (-1)) 115 2 0) 118 4 0) 122 4 0) c = I c := fun c h1 h2 h3 h4 => by rw [up2_row _ _ _ _ h3, up2_row _ _ _ _ h2, up2_row _ _ _ _ h1, up2_row _ _ _ _ h4, up2_row _ _ _ _ h4, up2_row _ _ _ _ h4, up2_row _ _ _ _ h4]
  refine (lp_set X _ _ cc ss _ _ (n : Int) 900 0 rfl (hT.cell (eD 112 (by decide) (by decide) (by decide) (by decide)) (eD 113 (by decide) (by decide) (by decide) (by decide))) rfl 0 rfl (Nat.zero_le _) (Nat.le_refl _) (d := d) ⟨hd0.symm, fun k hk => absurd hk (by omega)⟩ ⟨hwd.1, hd11.symm, fun p hp => absurd hp (by omega)⟩ ⟨hwd.2, hd308.symm, fun p hp => absurd hp (by omega)⟩ hw rfl (onlyP.refl _ _) _ _).mono ?_
  rintro o T ⟨z, I', J', rfl, rfl, ho, hc⟩
  exact ⟨_, _, _, rfl, rfl, fun c h1 h2 => (ho.1 c h1 h2).trans (eD c (by omega) (by omega) (by omega) h2), ho.2.2.1, ⟨ho.2.2.2.1.trans hwd.1, ho.2.2.2.2.trans hwd.2⟩, hc⟩
theorem pb_load_x (X : AX) (I J : Nat → Nat → Int) (cc ss : Nat) (y : Int) {tx : F1} {fl : Nat} (hX : TXc I tx fl) (h : ¬ (0 ≤ y ∧ y ≤ 4 * (fl : Int))) : Ev X k_X8_load (0, [some (vr 0), some (vi y), none], []) (MS I J cc ss) (fun o T => o = .inr 1 ∧ T = MS I J (cc + 1) (ss + 6)) := by
  refine ev_n (fr' := (9, [some (vr 0), some (vi y), none], [vr 112, vi 0, vi y])) (S' := MS I J cc ss) 5 rfl ?_
  refine ev_cv rfl rfl rfl ⟨Nat.le_of_ble_eq_true rfl, Nat.le_of_ble_eq_true rfl⟩ (sp_tlen X _ _ _ _ hX) ?_
  show Ev X k_X8_load (12, [some (vr 0), some (vi y), none], [vi (4 * (fl : Int)), vi 0, vi y]) (MS I J cc ss) _
  refine ev_cv rfl rfl rfl ⟨Nat.le_of_ble_eq_true rfl, Nat.le_of_ble_eq_true rfl⟩ (sp_within X _ y 0 (4 * (fl : Int)) ) ?_
  show Ev X k_X8_load (15, [some (vr 0), some (vi y), none], [vi (if 0 ≤ y ∧ y ≤ 4 * (fl : Int) then 1 else 0)]) (MS I J cc ss) _
  refine ev_s0 _ (h) ?_
  show Ev X k_X8_load (15, [some (vr 0), some (vi y), none], [vi 0]) (MS I J cc ss) _
  refine ev_cx rfl rfl rfl ⟨Nat.le_of_ble_eq_true rfl, Nat.le_of_ble_eq_true rfl⟩ (sp_reqA0 X _ _ _ _) rfl ?_
  exact ⟨rfl, rfl⟩
def LdC (I I' J J' : F2) (hs : Nat → F1) (m : Nat) (g : F1) (r : F1 ⊕ (Int × Nat)) (z : Int) : Prop := (∀ c, (c = 0 ∨ (114 ≤ c ∧ c < 126) ∨ 111 ≤ c) → c ≠ 0 → (c < 114 ∨ 126 ≤ c) → c ≠ 112 → c ≠ 111 → I' c = I c ∧ J' c = J c) ∧ (∀ f, f ≠ 7 → I' 0 f = I 0 f) ∧ J' 0 = J 0 ∧ I' 112 1 = 0 ∧ WD I' 114 ∧ match r with
  | .inl d' => z = d' 308 ∧ I' 0 7 = -1 ∧ Hist I' J' (remH hs m g) (remM m) ∧ SetR I' J' 1 d' ∧ WF d'
  | .inr (c, s) => z = c ∧ I' 0 7 = (s : Int) ∧ Hist I' J' hs m ∧ SetR I' J' 1 g
theorem sp_tclr (X : AX) (I J : Nat → Nat → Int) (cc ss : Nat) : Ev X k_X6_clear (0, [some (vr 112)], []) (MS I J cc ss) (fun o T => o = .inl none ∧ T = MS (up2 I 112 1 0) J cc ss) := by
  refine ev_n (fr' := (2, [some (vr 112)], [vi 0, vr 112])) (S' := MS I J cc ss) 2 rfl ?_
  refine ev_n (fr' := (5, [some (vr 112)], [])) (S' := MS (up2 I 112 1 0) J cc ss) 1 rfl ?_
  refine ev_r rfl rfl rfl ?_
  exact ⟨rfl, rfl⟩
theorem sp_ePlace (X : AX) (I J : Nat → Nat → Int) (cc ss : Nat) : Ev X k_X4_errorPlace (0, [some (vr 111)], []) (MS I J cc ss) (fun o T => o = .inl (some (vi (I 111 7))) ∧ T = MS I J cc ss) := by
  refine ev_n (fr' := (4, [some (vr 111)], [vi (I 111 7)])) (S' := MS I J cc ss) 2 rfl ?_
  refine ev_r rfl rfl rfl ?_
  exact ⟨rfl, rfl⟩
theorem sp_eCode (X : AX) (I J : Nat → Nat → Int) (cc ss : Nat) : Ev X k_X4_errorCode (0, [some (vr 111)], []) (MS I J cc ss) (fun o T => o = .inl (some (vi (I 111 6))) ∧ T = MS I J cc ss) := by
  refine ev_n (fr' := (4, [some (vr 111)], [vi (I 111 6)])) (S' := MS I J cc ss) 2 rfl ?_
  refine ev_r rfl rfl rfl ?_
  exact ⟨rfl, rfl⟩
theorem pb_load (X : AX) (I J : Nat → Nat → Int) (cc ss : Nat) (n : Nat) {tx : F1} {fl : Nat} (hX : TXc I tx fl) (hn4 : n ≤ 4 * fl) (hwd : WD I 114) {d g : F1} (hw0 : WF d) (hd0 : d 0 = 0) (hd11 : d 11 = 0) (hd308 : d 308 = 0) {hs : Nat → F1} {m : Nat} (hH : Hist I J hs m) (hR : SetR I J 1 g) (hwg : WF g) : Ev X k_X8_load (0, [some (vr 0), some (vi (n : Int)), none], []) (MS I J cc ss) (PZ cc ss (fun z I' J' => LdC I I' J J' hs m g (pSet true tx n 900 d 0) z)) := by
  refine ev_n (fr' := (9, [some (vr 0), some (vi (n : Int)), none], [vr 112, vi 0, vi (n : Int)])) (S' := MS I J cc ss) 5 rfl ?_
  refine ev_cv rfl rfl rfl ⟨Nat.le_of_ble_eq_true rfl, Nat.le_of_ble_eq_true rfl⟩ (sp_tlen X _ _ _ _ hX) ?_
  show Ev X k_X8_load (12, [some (vr 0), some (vi (n : Int)), none], [vi (4 * (fl : Int)), vi 0, vi (n : Int)]) (MS I J cc ss) _
  refine ev_cv rfl rfl rfl ⟨Nat.le_of_ble_eq_true rfl, Nat.le_of_ble_eq_true rfl⟩ (sp_within X _ (n : Int) 0 (4 * (fl : Int)) ) ?_
  show Ev X k_X8_load (15, [some (vr 0), some (vi (n : Int)), none], [vi (if 0 ≤ (n : Int) ∧ (n : Int) ≤ 4 * (fl : Int) then 1 else 0)]) (MS I J cc ss) _
  refine ev_s1 _ (by omega) ?_
  show Ev X k_X8_load (15, [some (vr 0), some (vi (n : Int)), none], [vi 1]) (MS I J cc ss) _
  refine ev_cv rfl rfl rfl ⟨Nat.le_of_ble_eq_true rfl, Nat.le_of_ble_eq_true rfl⟩ (sp_reqA1 X _) ?_
  show Ev X k_X8_load (18, [some (vr 0), some (vi (n : Int)), none], []) (MS I J cc ss) _
  refine ev_n (fr' := (23, [some (vr 0), some (vi (n : Int)), none], [vi (n : Int), vr 111])) (S' := MS I J cc ss) 3 rfl ?_
  refine ev_cz rfl rfl rfl ⟨Nat.le_of_ble_eq_true rfl, Nat.le_of_ble_eq_true rfl⟩ (sp_readSet X _ _ _ _ (hX.tb hn4) hwd hw0 hd0 hd11 hd308) (fun z1 I1 J2 q3 => ?_)
  obtain ⟨hA, hB, hwd2, hz9⟩ := q3
  rcases hr1 : pSet true tx n 900 d 0 with d1 | ⟨c1, s1⟩ <;> rw [hr1] at hz9
  · obtain ⟨rfl, h7, hR13, hwf⟩ := hz9
    have hr := hA 112 (by omega) (by decide)
    show Ev X k_X8_load (26, [some (vr 0), some (vi (n : Int)), none], [vi 1]) (MS I1 J2 cc ss) _
    refine ev_n (fr' := (34, [some (vr 0), some (vi (n : Int)), some (vi 1)], [vr 112])) (S' := MS I1 J2 cc ss) 4 rfl ?_
    refine ev_cv rfl rfl rfl ⟨Nat.le_of_ble_eq_true rfl, Nat.le_of_ble_eq_true rfl⟩ (sp_tclr X _ _ _ _) ?_
    show Ev X k_X8_load (37, [some (vr 0), some (vi (n : Int)), some (vi 1)], []) (MS (up2 I1 112 1 0) J2 cc ss) _
    refine ev_n (fr' := (42, [some (vr 0), some (vi (n : Int)), some (vi 1)], [vr 111, vr 0])) (S' := MS (up2 I1 112 1 0) J2 cc ss) 3 rfl ?_
    refine ev_cv rfl rfl rfl ⟨Nat.le_of_ble_eq_true rfl, Nat.le_of_ble_eq_true rfl⟩ (sp_ePlace X _ _ _ _) ?_
    show Ev X k_X8_load (45, [some (vr 0), some (vi (n : Int)), some (vi 1)], [vi (I1 111 7), vr 0]) (MS (up2 I1 112 1 0) J2 cc ss) _
    refine ev_n (fr' := (48, [some (vr 0), some (vi (n : Int)), some (vi 1)], [])) (S' := MS (up2 (up2 I1 112 1 0) 0 7 (I1 111 7)) J2 cc ss) 1 rfl ?_
    refine ev_n (fr' := (68, [some (vr 0), some (vi (n : Int)), some (vi 1)], [vr 1, vr 13])) (S' := MS (up2 (up2 I1 112 1 0) 0 7 (I1 111 7)) J2 cc ss) 6 rfl ?_
    refine ev_cp rfl rfl rfl ⟨Nat.le_of_ble_eq_true rfl, Nat.le_of_ble_eq_true rfl⟩ (sp_rem X _ _ _ _ (hH.cell (fun c h1 h2 => ⟨by rw [up2_row _ _ _ _ (by omega), up2_row _ _ _ _ (by omega)]; exact hA c (by omega) (by omega), hB c (by omega)⟩)) (hR.cell (fun c h1 h2 => ⟨by rw [up2_row _ _ _ _ (by omega), up2_row _ _ _ _ (by omega)]; exact hA c (by omega) (by omega), hB c (by omega)⟩)) hwg) (fun I4 J5 q6 => ?_)
    obtain ⟨hOH, hH9, hR9⟩ := q6
    show Ev X k_X8_load (71, [some (vr 0), some (vi (n : Int)), some (vi 1)], []) (MS I4 J5 cc ss) _
    have hR13 := hR13.cell (I' := I4) (J' := J5) (fun c h1 h2 => ⟨(hOH.1 c (by omega)).trans (by rw [up2_row _ _ _ _ (by omega), up2_row _ _ _ _ (by omega)]), hOH.2 c (by omega)⟩)
    refine ev_n (fr' := (82, [some (vr 0), some (vi (n : Int)), some (vi 1)], [vr 114, vr 1])) (S' := MS I4 J5 cc ss) 5 rfl ?_
    refine ev_cv rfl rfl rfl ⟨Nat.le_of_ble_eq_true rfl, Nat.le_of_ble_eq_true rfl⟩ (sp_cpA_1_114 X _ _ _ _) ?_
    show Ev X k_X8_load (85, [some (vr 0), some (vi (n : Int)), some (vi 1)], []) (MS ((cpA I4 1 114)) ((cpJ J5 1 114)) cc ss) _
    have hR1 := cpA_rep hR13 hwf (by omega) hR9.wd
    refine ev_n (fr' := (92, [some (vr 0), some (vi (n : Int)), some (vi 1)], [vr 9])) (S' := MS ((cpA I4 1 114)) ((cpJ J5 1 114)) cc ss) 3 rfl ?_
    refine ev_cv rfl rfl rfl ⟨Nat.le_of_ble_eq_true rfl, Nat.le_of_ble_eq_true rfl⟩ (sp_rowCount_9 X _ _ _ _ hR1.2.2) ?_
    show Ev X k_X8_load (95, [some (vr 0), some (vi (n : Int)), some (vi 1)], [vi (d1 308)]) (MS ((cpA I4 1 114)) ((cpJ J5 1 114)) cc ss) _
    refine ev_r rfl rfl rfl ?_
    have hA2 : ∀ c, c < 114 ∨ 126 ≤ c → c ≠ 111 → c ≠ 112 → c ≠ 0 → (c = 0 ∨ 12 < c) → (c < 13 ∨ 111 ≤ c) → ((cpA I4 1 114)) c = I c ∧ ((cpJ J5 1 114)) c = J c := fun c h1 h2 h3 h4 h5 h6 => ⟨(cpA_ne (by omega)).trans ((hOH.1 c h6).trans (by rw [up2_row _ _ _ _ h4, up2_row _ _ _ _ h3]; exact hA c h1 h2)), (cpJ_ne (by omega)).trans ((hOH.2 c h6).trans (hB c h1))⟩
    refine ⟨_, _, _, rfl, rfl, fun c h0 h4 h1 h3 h2 => hA2 c h1 h2 h3 h4 (by omega) (by omega), fun f hf => ?_, (cpJ_ne (by omega)).trans ((hOH.2 0 (by omega)).trans (hB 0 (by omega))), ?_, ?_, rfl, ?_, hH9.cell (fun c h1 h2 => ⟨cpA_ne (by omega), cpJ_ne (by omega)⟩), hR1, hwf⟩
    · rw [cpA_ne (by omega), hOH.1 0 (by omega), up2_ne2 _ _ _ _ hf, up2_row _ _ _ _ (by decide), hA 0 (by omega) (by decide)]
    · rw [cpA_ne (by omega), hOH.1 112 (by omega), up2_row _ _ _ _ (by decide), up2_same]
    · exact ⟨(congrFun (cpA_ne (by omega)) 0).trans hR13.2.1.1, (congrFun (cpA_ne (by omega)) 0).trans hR13.2.2.1⟩
    · rw [cpA_ne (by omega), hOH.1 0 (by omega), up2_same]; exact h7
  · obtain ⟨rfl, hE⟩ := hz9
    show Ev X k_X8_load (26, [some (vr 0), some (vi (n : Int)), none], [vi 0]) (MS I1 J2 cc ss) _
    refine ev_n (fr' := (34, [some (vr 0), some (vi (n : Int)), some (vi 0)], [vr 112])) (S' := MS I1 J2 cc ss) 4 rfl ?_
    refine ev_cv rfl rfl rfl ⟨Nat.le_of_ble_eq_true rfl, Nat.le_of_ble_eq_true rfl⟩ (sp_tclr X _ _ _ _) ?_
    show Ev X k_X8_load (37, [some (vr 0), some (vi (n : Int)), some (vi 0)], []) (MS (up2 I1 112 1 0) J2 cc ss) _
    refine ev_n (fr' := (42, [some (vr 0), some (vi (n : Int)), some (vi 0)], [vr 111, vr 0])) (S' := MS (up2 I1 112 1 0) J2 cc ss) 3 rfl ?_
    refine ev_cv rfl rfl rfl ⟨Nat.le_of_ble_eq_true rfl, Nat.le_of_ble_eq_true rfl⟩ (sp_ePlace X _ _ _ _) ?_
    show Ev X k_X8_load (45, [some (vr 0), some (vi (n : Int)), some (vi 0)], [vi (I1 111 7), vr 0]) (MS (up2 I1 112 1 0) J2 cc ss) _
    refine ev_n (fr' := (48, [some (vr 0), some (vi (n : Int)), some (vi 0)], [])) (S' := MS (up2 (up2 I1 112 1 0) 0 7 (I1 111 7)) J2 cc ss) 1 rfl ?_
    refine ev_n (fr' := (56, [some (vr 0), some (vi (n : Int)), some (vi 0)], [vr 111])) (S' := MS (up2 (up2 I1 112 1 0) 0 7 (I1 111 7)) J2 cc ss) 4 rfl ?_
    refine ev_cv rfl rfl rfl ⟨Nat.le_of_ble_eq_true rfl, Nat.le_of_ble_eq_true rfl⟩ (sp_eCode X _ _ _ _) ?_
    show Ev X k_X8_load (59, [some (vr 0), some (vi (n : Int)), some (vi 0)], [vi (I1 111 6)]) (MS (up2 (up2 I1 112 1 0) 0 7 (I1 111 7)) J2 cc ss) _
    refine ev_r rfl rfl rfl ?_
    have hA2 := fun c (h1 : c < 114 ∨ 126 ≤ c) (h2 : c ≠ 111) (h3 : c ≠ 112) (h4 : c ≠ 0) => (show (up2 (up2 I1 112 1 0) 0 7 (I1 111 7)) c = I c by rw [up2_row _ _ _ _ h4, up2_row _ _ _ _ h3]; exact hA c h1 h2)
    refine ⟨_, _, _, rfl, rfl, fun c _ h4 h1 h3 h2 => ⟨hA2 c h1 h2 h3 h4, hB c h1⟩, fun f hf => ?_, hB 0 (by omega), ?_, ?_, hE.1, ?_, hH.cell (fun c h1 h2 => ⟨hA2 c (by omega) (by omega) (by omega) (by omega), hB c (by omega)⟩), hR.cell (fun c h1 h2 => ⟨hA2 c (by omega) (by omega) (by omega) (by omega), hB c (by omega)⟩)⟩
    · rw [up2_ne2 _ _ _ _ hf, up2_row _ _ _ _ (by decide), hA 0 (by omega) (by decide)]
    · rw [up2_row _ _ _ _ (by decide), up2_same]
    · exact ⟨(congrFun (up2_row _ _ _ _ (by decide)) 0).trans ((congrFun (up2_row _ _ _ _ (by decide)) 0).trans hwd2.1), (congrFun (up2_row _ _ _ _ (by decide)) 0).trans ((congrFun (up2_row _ _ _ _ (by decide)) 0).trans hwd2.2)⟩
    · rw [up2_same]; exact hE.2
