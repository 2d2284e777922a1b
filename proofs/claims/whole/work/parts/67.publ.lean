/-! PUBLIC QUESTIONS, class, loops (printed by gen/g67.py) -/
theorem sp_topologyZ (X : AX) (I J : Nat → Nat → Int) (cc ss : Nat) {g : F1} (i : Nat) (P e : Int) (hP : PRep I J 5 g) (hI : IRep I J 9 g) (hwp : WP g) (hwi : WI g) (hQ : 0 ≤ P ∧ P ≤ 32) (he : -2 ≤ e ∧ e ≤ 2) (hi : (i : Int) < g 308) : Ev X k_X8_topologyAt (0, [some (vr 0), some (vi (i : Int)), some (vi P), some (vi e)], []) (MS I J cc ss) (PZ cc ss (fun z I' J' => J' = J ∧ scrC I I' ∧ z = tpF g i P.toNat e)) := by
  obtain ⟨n, rfl⟩ : ∃ n : Nat, P = n := ⟨P.toNat, by omega⟩
  rw [Int.toNat_natCast]
  exact sp_topologyAt X I J cc ss i n e hP hI hwp hwi (by omega) he hi
noncomputable def tsF (g : F1) (i k : Nat) : Int := tpF g i (g (2 * k + 1)).toNat (g (2 * k + 2))
noncomputable def ktB (g : F1) (i : Nat) : Bool := allN (fun k => tsF g i k == tsF g i 0) (g 0).toNat
theorem kt_true {g : F1} {i : Nat} : ktB g i = true ↔ ∀ k, k < (g 0).toNat → tsF g i k = tsF g i 0 := by
  unfold ktB; rw [allN_true]
  exact ⟨fun h k hk => eq_of_beq (h k hk), fun h k hk => by rw [h k hk]; exact beq_self_eq_true _⟩
noncomputable def smN (g : F1) (i : Nat) : Nat → Nat
  | 0 => 0
  | p + 1 => if 4 ≤ p ∧ tpF g i p 0 = tpF g i 32 0 then smN g i p else p + 1
def exG (f : Nat → Int) : Nat → Nat
  | 0 => 0
  | n + 1 => if n = 0 then 0 else if f (exG f n) < f n then n else exG f n
def exL (f : Nat → Int) : Nat → Nat
  | 0 => 0
  | n + 1 => if n = 0 then 0 else if f n < f (exL f n) then n else exL f n
theorem exG_lt (f : Nat → Int) : ∀ n : Nat, exG f n < n ∨ exG f n = 0
  | 0 => Or.inr rfl
  | n + 1 => by unfold exG; have := exG_lt f n; split; omega; split <;> omega
theorem exL_lt (f : Nat → Int) : ∀ n : Nat, exL f n < n ∨ exL f n = 0
  | 0 => Or.inr rfl
  | n + 1 => by unfold exL; have := exL_lt f n; split; omega; split <;> omega
def inF (g : F1) (p : Nat) (P e : Int) (i : Nat) : Int := cntB (fun y x => icF g i P e y x ^^ iconB g i (-1) (p : Int) P e y x)
theorem pb_keeps_x (X : AX) (I J : Nat → Nat → Int) (cc ss : Nat) {g : F1} (y : Int) (hS : SRep I 1 g) (hP : PRep I J 5 g) (hI : IRep I J 9 g) (hws : WS g) (hwp : WP g) (hwi : WI g) (h : ¬ (0 ≤ y ∧ y < g 308)) : Ev X k_X8_keepsTopology (0, [some (vr 0), some (vi y), none, none], []) (MS I J cc ss) (fun o T => o = .inr 2 ∧ T = MS I J (cc + 1) (ss + 6)) := by
  refine ev_n (fr' := (8, [some (vr 0), some (vi y), none, none], [vi y, vr 9])) (S' := MS I J cc ss) 4 rfl ?_
  refine ev_cv rfl rfl rfl ⟨Nat.le_of_ble_eq_true rfl, Nat.le_of_ble_eq_true rfl⟩ (sp_hasRow_9 X _ _ _ _ y hI) ?_
  show Ev X k_X8_keepsTopology (11, [some (vr 0), some (vi y), none, none], [vi (if 0 ≤ y ∧ y < g 308 then 1 else 0)]) (MS I J cc ss) _
  refine ev_s0 _ (h) ?_
  show Ev X k_X8_keepsTopology (11, [some (vr 0), some (vi y), none, none], [vi 0]) (MS I J cc ss) _
  refine ev_cx rfl rfl rfl ⟨Nat.le_of_ble_eq_true rfl, Nat.le_of_ble_eq_true rfl⟩ (sp_reqI0 X _ _ _ _) rfl ?_
  exact ⟨rfl, rfl⟩
theorem lp_kt (X : AX) (I J : Nat → Nat → Int) (cc ss : Nat) {g : F1} (I0 : F2) (i : Nat) (hS : SRep I 1 g) (hP : PRep I J 5 g) (hI : IRep I J 9 g) (hws : WS g) (hwp : WP g) (hwi : WI g) (hi : (i : Int) < g 308) (k : Nat) (hk : 1 ≤ k) (hq : ∀ q, q < k → tsF g i q = tsF g i 0) (hO : scrC I0 I) : Ev X k_X8_keepsTopology (44, [some (vr 0), some (vi (i : Int)), some (vi (tsF g i 0)), some (vi (k : Int))], []) (MS I J cc ss) (PV cc ss (some (vi (if ktB g i = true then 1 else 0))) (fun I' J' => J' = J ∧ scrC I0 I')) := by
  have hws1 := hws.2.1
  refine ev_n (fr' := (52, [some (vr 0), some (vi (i : Int)), some (vi (tsF g i 0)), some (vi (k : Int))], [vr 2, vi (k : Int)])) (S' := MS I J cc ss) 4 rfl ?_
  refine ev_cv rfl rfl rfl ⟨Nat.le_of_ble_eq_true rfl, Nat.le_of_ble_eq_true rfl⟩ (sp_sizeCount_2 X _ _ _ _  hS) ?_
  show Ev X k_X8_keepsTopology (55, [some (vr 0), some (vi (i : Int)), some (vi (tsF g i 0)), some (vi (k : Int))], [vi (g 0), vi (k : Int)]) (MS I J cc ss) _
  refine ev_ic (c := .ge) (off := 42) rfl (by decide) (fun (g1 : (g 0) ≤ (k : Int)) => ?_) (fun (g1 : ¬ ((g 0) ≤ (k : Int))) => ?_)
  · show Ev X k_X8_keepsTopology (97, [some (vr 0), some (vi (i : Int)), some (vi (tsF g i 0)), some (vi (k : Int))], []) (MS I J cc ss) _
    refine ev_n (fr' := (98, [some (vr 0), some (vi (i : Int)), some (vi (tsF g i 0)), some (vi (k : Int))], [vi 1])) (S' := MS I J cc ss) 1 rfl ?_
    refine ev_r rfl rfl rfl ?_
    exact ⟨_, _, rfl, congrArg (fun z => Sum.inl (some (vi z))) (if_pos (kt_true.mpr (fun q hq2 => hq q (by omega)))).symm, rfl, hO⟩
  · show Ev X k_X8_keepsTopology (58, [some (vr 0), some (vi (i : Int)), some (vi (tsF g i 0)), some (vi (k : Int))], []) (MS I J cc ss) _
    have hr := hws.2.2.1 k (by omega)
    refine ev_n (fr' := (68, [some (vr 0), some (vi (i : Int)), some (vi (tsF g i 0)), some (vi (k : Int))], [vi (k : Int), vr 2, vi (i : Int), vr 0])) (S' := MS I J cc ss) 6 rfl ?_
    refine ev_cv rfl rfl rfl ⟨Nat.le_of_ble_eq_true rfl, Nat.le_of_ble_eq_true rfl⟩ (sp_pixelsOf_2 X _ _ _ _ k hS hws (by omega)) ?_
    show Ev X k_X8_keepsTopology (71, [some (vr 0), some (vi (i : Int)), some (vi (tsF g i 0)), some (vi (k : Int))], [vi (g (2 * k + 1)), vi (i : Int), vr 0]) (MS I J cc ss) _
    refine ev_n (fr' := (79, [some (vr 0), some (vi (i : Int)), some (vi (tsF g i 0)), some (vi (k : Int))], [vi (k : Int), vr 2, vi (g (2 * k + 1)), vi (i : Int), vr 0])) (S' := MS I J cc ss) 4 rfl ?_
    refine ev_cv rfl rfl rfl ⟨Nat.le_of_ble_eq_true rfl, Nat.le_of_ble_eq_true rfl⟩ (sp_extraOf_2 X _ _ _ _ k hS hws (by omega)) ?_
    show Ev X k_X8_keepsTopology (82, [some (vr 0), some (vi (i : Int)), some (vi (tsF g i 0)), some (vi (k : Int))], [vi (g (2 * k + 2)), vi (g (2 * k + 1)), vi (i : Int), vr 0]) (MS I J cc ss) _
    refine ev_cz rfl rfl rfl ⟨Nat.le_of_ble_eq_true rfl, Nat.le_of_ble_eq_true rfl⟩ (sp_topologyZ X _ _ _ _ i (g (2 * k + 1)) (g (2 * k + 2)) hP hI hwp hwi (by omega) (by omega) (by omega)) (fun zI1 I1 J q2 => ?_)
    obtain ⟨rfl, rI1, hzI1⟩ := q2
    show Ev X k_X8_keepsTopology (85, [some (vr 0), some (vi (i : Int)), some (vi (tsF g i 0)), some (vi (k : Int))], [vi zI1]) (MS I1 J cc ss) _
    rw [hzI1]
    have hO := hO.trans rI1
    have hS := scrC.S rI1 (by decide) hS
    have hP := scrC.P rI1 (by decide) hP
    have hI := scrC.I rI1 (by decide) hI
    refine ev_n (fr' := (86, [some (vr 0), some (vi (i : Int)), some (vi (tsF g i 0)), some (vi (k : Int))], [vi (tsF g i 0), vi (tpF g i (g (2 * k + 1)).toNat (g (2 * k + 2)))])) (S' := MS I1 J cc ss) 1 rfl ?_
    refine ev_ic (c := .eq) (off := 5) rfl (by decide) (fun (g2 : (tpF g i (g (2 * k + 1)).toNat (g (2 * k + 2))) = (tsF g i 0)) => ?_) (fun (g2 : ¬ ((tpF g i (g (2 * k + 1)).toNat (g (2 * k + 2))) = (tsF g i 0))) => ?_)
    · show Ev X k_X8_keepsTopology (91, [some (vr 0), some (vi (i : Int)), some (vi (tsF g i 0)), some (vi (k : Int))], []) (MS I1 J cc ss) _
      refine ev_inc (z := (k : Int) + 1) rfl rfl (by omega) (by omega) (by omega) rfl ?_
      show Ev X k_X8_keepsTopology (94, [some (vr 0), some (vi (i : Int)), some (vi (tsF g i 0)), some (vi ((k : Int) + 1))], []) (MS I1 J cc ss) _
      refine ev_n (fr' := (44, [some (vr 0), some (vi (i : Int)), some (vi (tsF g i 0)), some (vi ((k : Int) + 1))], [])) (S' := MS I1 J cc ss) 1 rfl ?_
      exact lp_kt X _ _ cc ss I0 i hS hP hI hws hwp hwi hi (k + 1) (by omega) (nlt_succ hq g2) hO
    · show Ev X k_X8_keepsTopology (89, [some (vr 0), some (vi (i : Int)), some (vi (tsF g i 0)), some (vi (k : Int))], []) (MS I1 J cc ss) _
      refine ev_n (fr' := (90, [some (vr 0), some (vi (i : Int)), some (vi (tsF g i 0)), some (vi (k : Int))], [vi 0])) (S' := MS I1 J cc ss) 1 rfl ?_
      refine ev_r rfl rfl rfl ?_
      exact ⟨_, _, rfl, congrArg (fun z => Sum.inl (some (vi z))) (if_neg (fun q => g2 (kt_true.mp q k (by omega)))).symm, rfl, hO⟩
termination_by 6 - k
decreasing_by all_goals omega
theorem pb_keeps (X : AX) (I J : Nat → Nat → Int) (cc ss : Nat) {g : F1} (i : Nat) (hS : SRep I 1 g) (hP : PRep I J 5 g) (hI : IRep I J 9 g) (hws : WS g) (hwp : WP g) (hwi : WI g) (hi : (i : Int) < g 308) (h0 : 0 < g 0) : Ev X k_X8_keepsTopology (0, [some (vr 0), some (vi (i : Int)), none, none], []) (MS I J cc ss) (PV cc ss (some (vi (if ktB g i = true then 1 else 0))) (fun I' J' => J' = J ∧ scrC I I')) := by
  have hO := scrC.refl I
  have hr := hws.2.2.1 0 (by omega)
  refine ev_n (fr' := (8, [some (vr 0), some (vi (i : Int)), none, none], [vi (i : Int), vr 9])) (S' := MS I J cc ss) 4 rfl ?_
  refine ev_cv rfl rfl rfl ⟨Nat.le_of_ble_eq_true rfl, Nat.le_of_ble_eq_true rfl⟩ (sp_hasRow_9 X _ _ _ _ (i : Int) hI) ?_
  show Ev X k_X8_keepsTopology (11, [some (vr 0), some (vi (i : Int)), none, none], [vi (if 0 ≤ (i : Int) ∧ (i : Int) < g 308 then 1 else 0)]) (MS I J cc ss) _
  refine ev_s1 _ (by omega) ?_
  show Ev X k_X8_keepsTopology (11, [some (vr 0), some (vi (i : Int)), none, none], [vi 1]) (MS I J cc ss) _
  refine ev_cv rfl rfl rfl ⟨Nat.le_of_ble_eq_true rfl, Nat.le_of_ble_eq_true rfl⟩ (sp_reqI1 X _) ?_
  show Ev X k_X8_keepsTopology (14, [some (vr 0), some (vi (i : Int)), none, none], []) (MS I J cc ss) _
  refine ev_n (fr' := (24, [some (vr 0), some (vi (i : Int)), none, none], [vi 0, vr 2, vi (i : Int), vr 0])) (S' := MS I J cc ss) 6 rfl ?_
  refine ev_cv rfl rfl rfl ⟨Nat.le_of_ble_eq_true rfl, Nat.le_of_ble_eq_true rfl⟩ (sp_pixelsOf_2 X _ _ _ _ 0 hS hws (by omega)) ?_
  show Ev X k_X8_keepsTopology (27, [some (vr 0), some (vi (i : Int)), none, none], [vi (g (2 * 0 + 1)), vi (i : Int), vr 0]) (MS I J cc ss) _
  refine ev_n (fr' := (35, [some (vr 0), some (vi (i : Int)), none, none], [vi 0, vr 2, vi (g (2 * 0 + 1)), vi (i : Int), vr 0])) (S' := MS I J cc ss) 4 rfl ?_
  refine ev_cv rfl rfl rfl ⟨Nat.le_of_ble_eq_true rfl, Nat.le_of_ble_eq_true rfl⟩ (sp_extraOf_2 X _ _ _ _ 0 hS hws (by omega)) ?_
  show Ev X k_X8_keepsTopology (38, [some (vr 0), some (vi (i : Int)), none, none], [vi (g (2 * 0 + 2)), vi (g (2 * 0 + 1)), vi (i : Int), vr 0]) (MS I J cc ss) _
  refine ev_cz rfl rfl rfl ⟨Nat.le_of_ble_eq_true rfl, Nat.le_of_ble_eq_true rfl⟩ (sp_topologyZ X _ _ _ _ i (g (2 * 0 + 1)) (g (2 * 0 + 2)) hP hI hwp hwi (by omega) (by omega) (by omega)) (fun zI1 I1 J q2 => ?_)
  obtain ⟨rfl, rI1, hzI1⟩ := q2
  show Ev X k_X8_keepsTopology (41, [some (vr 0), some (vi (i : Int)), none, none], [vi zI1]) (MS I1 J cc ss) _
  rw [hzI1]
  have hO := hO.trans rI1
  have hS := scrC.S rI1 (by decide) hS
  have hP := scrC.P rI1 (by decide) hP
  have hI := scrC.I rI1 (by decide) hI
  refine ev_n (fr' := (44, [some (vr 0), some (vi (i : Int)), some (vi (tpF g i (g (2 * 0 + 1)).toNat (g (2 * 0 + 2)))), some (vi 1)], [])) (S' := MS I1 J cc ss) 3 rfl ?_
  exact lp_kt X _ _ cc ss I i hS hP hI hws hwp hwi hi 1 (by omega) (fun q hq => by rw [show q = 0 by omega]) hO
theorem sp_pixelsOf_n (X : AX) (I J : Nat → Nat → Int) (cc ss : Nat) {g : F1} (hS : SRep I 1 g) (h0 : g 0 = 0) : Ev X k_X5_pixelsOf (0, [some (vr 2), some (vi 0)], []) (MS I J cc ss) (fun o T => o = .inl (some (vi 0)) ∧ T = MS I J cc ss) := by
  refine ev_n (fr' := (2, [some (vr 2), some (vi 0)], [vi 0, vr 2])) (S' := MS I J cc ss) 2 rfl ?_
  refine ev_cv rfl rfl rfl ⟨Nat.le_of_ble_eq_true rfl, Nat.le_of_ble_eq_true rfl⟩ (sp_has_2 X _ _ _ _ 0 hS) ?_
  show Ev X k_X5_pixelsOf (5, [some (vr 2), some (vi 0)], [vi (if 0 ≤ 0 ∧ 0 < g 0 then 1 else 0)]) (MS I J cc ss) _
  refine ev_beq _ rfl (by decide) (fun (g1 : ¬ (0 ≤ 0 ∧ 0 < g 0)) => ?_) (fun (g1 : 0 ≤ 0 ∧ 0 < g 0) => False.elim ((fun q => absurd q.2 (by omega)) g1))
  show Ev X k_X5_pixelsOf (17, [some (vr 2), some (vi 0)], []) (MS I J cc ss) _
  refine ev_n (fr' := (18, [some (vr 2), some (vi 0)], [vi 0])) (S' := MS I J cc ss) 1 rfl ?_
  refine ev_r rfl rfl rfl ?_
  exact ⟨rfl, rfl⟩
theorem sp_extraOf_n (X : AX) (I J : Nat → Nat → Int) (cc ss : Nat) {g : F1} (hS : SRep I 1 g) (h0 : g 0 = 0) : Ev X k_X5_extraOf (0, [some (vr 2), some (vi 0)], []) (MS I J cc ss) (fun o T => o = .inl (some (vi 0)) ∧ T = MS I J cc ss) := by
  refine ev_n (fr' := (2, [some (vr 2), some (vi 0)], [vi 0, vr 2])) (S' := MS I J cc ss) 2 rfl ?_
  refine ev_cv rfl rfl rfl ⟨Nat.le_of_ble_eq_true rfl, Nat.le_of_ble_eq_true rfl⟩ (sp_has_2 X _ _ _ _ 0 hS) ?_
  show Ev X k_X5_extraOf (5, [some (vr 2), some (vi 0)], [vi (if 0 ≤ 0 ∧ 0 < g 0 then 1 else 0)]) (MS I J cc ss) _
  refine ev_beq _ rfl (by decide) (fun (g1 : ¬ (0 ≤ 0 ∧ 0 < g 0)) => ?_) (fun (g1 : 0 ≤ 0 ∧ 0 < g 0) => False.elim ((fun q => absurd q.2 (by omega)) g1))
  show Ev X k_X5_extraOf (17, [some (vr 2), some (vi 0)], []) (MS I J cc ss) _
  refine ev_n (fr' := (18, [some (vr 2), some (vi 0)], [vi 0])) (S' := MS I J cc ss) 1 rfl ?_
  refine ev_r rfl rfl rfl ?_
  exact ⟨rfl, rfl⟩
theorem pb_keeps_0 (X : AX) (I J : Nat → Nat → Int) (cc ss : Nat) {g : F1} (i : Nat) (hS : SRep I 1 g) (hP : PRep I J 5 g) (hI : IRep I J 9 g) (hws : WS g) (hwp : WP g) (hwi : WI g) (hi : (i : Int) < g 308) (h0 : g 0 = 0) : Ev X k_X8_keepsTopology (0, [some (vr 0), some (vi (i : Int)), none, none], []) (MS I J cc ss) (PV cc ss (some (vi (if ktB g i = true then 1 else 0))) (fun I' J' => J' = J ∧ scrC I I')) := by
  have hO := scrC.refl I
  refine ev_n (fr' := (8, [some (vr 0), some (vi (i : Int)), none, none], [vi (i : Int), vr 9])) (S' := MS I J cc ss) 4 rfl ?_
  refine ev_cv rfl rfl rfl ⟨Nat.le_of_ble_eq_true rfl, Nat.le_of_ble_eq_true rfl⟩ (sp_hasRow_9 X _ _ _ _ (i : Int) hI) ?_
  show Ev X k_X8_keepsTopology (11, [some (vr 0), some (vi (i : Int)), none, none], [vi (if 0 ≤ (i : Int) ∧ (i : Int) < g 308 then 1 else 0)]) (MS I J cc ss) _
  refine ev_s1 _ (by omega) ?_
  show Ev X k_X8_keepsTopology (11, [some (vr 0), some (vi (i : Int)), none, none], [vi 1]) (MS I J cc ss) _
  refine ev_cv rfl rfl rfl ⟨Nat.le_of_ble_eq_true rfl, Nat.le_of_ble_eq_true rfl⟩ (sp_reqI1 X _) ?_
  show Ev X k_X8_keepsTopology (14, [some (vr 0), some (vi (i : Int)), none, none], []) (MS I J cc ss) _
  refine ev_n (fr' := (24, [some (vr 0), some (vi (i : Int)), none, none], [vi 0, vr 2, vi (i : Int), vr 0])) (S' := MS I J cc ss) 6 rfl ?_
  refine ev_cv rfl rfl rfl ⟨Nat.le_of_ble_eq_true rfl, Nat.le_of_ble_eq_true rfl⟩ (sp_pixelsOf_n X _ _ _ _ hS h0) ?_
  show Ev X k_X8_keepsTopology (27, [some (vr 0), some (vi (i : Int)), none, none], [vi 0, vi (i : Int), vr 0]) (MS I J cc ss) _
  refine ev_n (fr' := (35, [some (vr 0), some (vi (i : Int)), none, none], [vi 0, vr 2, vi 0, vi (i : Int), vr 0])) (S' := MS I J cc ss) 4 rfl ?_
  refine ev_cv rfl rfl rfl ⟨Nat.le_of_ble_eq_true rfl, Nat.le_of_ble_eq_true rfl⟩ (sp_extraOf_n X _ _ _ _ hS h0) ?_
  show Ev X k_X8_keepsTopology (38, [some (vr 0), some (vi (i : Int)), none, none], [vi 0, vi 0, vi (i : Int), vr 0]) (MS I J cc ss) _
  refine ev_cz rfl rfl rfl ⟨Nat.le_of_ble_eq_true rfl, Nat.le_of_ble_eq_true rfl⟩ (sp_topologyZ X _ _ _ _ i 0 0 hP hI hwp hwi (by omega) (by omega) (by omega)) (fun zI1 I1 J q2 => ?_)
  obtain ⟨rfl, rI1, hzI1⟩ := q2
  show Ev X k_X8_keepsTopology (41, [some (vr 0), some (vi (i : Int)), none, none], [vi zI1]) (MS I1 J cc ss) _
  rw [hzI1]
  have hO := hO.trans rI1
  have hS := scrC.S rI1 (by decide) hS
  have hP := scrC.P rI1 (by decide) hP
  have hI := scrC.I rI1 (by decide) hI
  refine ev_n (fr' := (52, [some (vr 0), some (vi (i : Int)), some (vi (tpF g i (0 : Int).toNat 0)), some (vi 1)], [vr 2, vi 1])) (S' := MS I1 J cc ss) 7 rfl ?_
  refine ev_cv rfl rfl rfl ⟨Nat.le_of_ble_eq_true rfl, Nat.le_of_ble_eq_true rfl⟩ (sp_sizeCount_2 X _ _ _ _  hS) ?_
  show Ev X k_X8_keepsTopology (55, [some (vr 0), some (vi (i : Int)), some (vi (tpF g i (0 : Int).toNat 0)), some (vi 1)], [vi (g 0), vi 1]) (MS I1 J cc ss) _
  refine ev_ic (c := .ge) (off := 42) rfl (by decide) (fun (g1 : (g 0) ≤ 1) => ?_) (fun (g1 : ¬ ((g 0) ≤ 1)) => False.elim (by omega))
  show Ev X k_X8_keepsTopology (97, [some (vr 0), some (vi (i : Int)), some (vi (tpF g i (0 : Int).toNat 0)), some (vi 1)], []) (MS I1 J cc ss) _
  refine ev_n (fr' := (98, [some (vr 0), some (vi (i : Int)), some (vi (tpF g i (0 : Int).toNat 0)), some (vi 1)], [vi 1])) (S' := MS I1 J cc ss) 1 rfl ?_
  refine ev_r rfl rfl rfl ?_
  exact ⟨_, _, rfl, congrArg (fun z => Sum.inl (some (vi z))) (if_pos (kt_true.mpr (fun q hq2 => absurd hq2 (by rw [h0]; exact Nat.not_lt_zero q)))).symm, rfl, hO⟩
theorem pb_smallest_x (X : AX) (I J : Nat → Nat → Int) (cc ss : Nat) {g : F1} (y : Int) (hS : SRep I 1 g) (hP : PRep I J 5 g) (hI : IRep I J 9 g) (hws : WS g) (hwp : WP g) (hwi : WI g) (h : ¬ (0 ≤ y ∧ y < g 308)) : Ev X k_X8_smallest (0, [some (vr 0), some (vi y), none, none, none], []) (MS I J cc ss) (fun o T => o = .inr 2 ∧ T = MS I J (cc + 1) (ss + 6)) := by
  refine ev_n (fr' := (8, [some (vr 0), some (vi y), none, none, none], [vi y, vr 9])) (S' := MS I J cc ss) 4 rfl ?_
  refine ev_cv rfl rfl rfl ⟨Nat.le_of_ble_eq_true rfl, Nat.le_of_ble_eq_true rfl⟩ (sp_hasRow_9 X _ _ _ _ y hI) ?_
  show Ev X k_X8_smallest (11, [some (vr 0), some (vi y), none, none, none], [vi (if 0 ≤ y ∧ y < g 308 then 1 else 0)]) (MS I J cc ss) _
  refine ev_s0 _ (h) ?_
  show Ev X k_X8_smallest (11, [some (vr 0), some (vi y), none, none, none], [vi 0]) (MS I J cc ss) _
  refine ev_cx rfl rfl rfl ⟨Nat.le_of_ble_eq_true rfl, Nat.le_of_ble_eq_true rfl⟩ (sp_reqI0 X _ _ _ _) rfl ?_
  exact ⟨rfl, rfl⟩
theorem lp_sm (X : AX) (I J : Nat → Nat → Int) (cc ss : Nat) {g : F1} (I0 : F2) (i : Nat) (hS : SRep I 1 g) (hP : PRep I J 5 g) (hI : IRep I J 9 g) (hws : WS g) (hwp : WP g) (hwi : WI g) (hi : (i : Int) < g 308) (f : Nat) (hf4 : 4 ≤ f ∧ f ≤ 32) (hf : smN g i 32 = smN g i f) (hO : scrC I0 I) : Ev X k_X8_smallest (30, [some (vr 0), some (vi (i : Int)), some (vi (tpF g i 32 0)), some (vi (f : Int)), some (vi ((f : Int) - 1))], []) (MS I J cc ss) (PV cc ss (some (vi (smN g i 32 : Int))) (fun I' J' => J' = J ∧ scrC I0 I')) := by
  refine ev_n (fr' := (33, [some (vr 0), some (vi (i : Int)), some (vi (tpF g i 32 0)), some (vi (f : Int)), some (vi ((f : Int) - 1))], [vi 4, vi ((f : Int) - 1)])) (S' := MS I J cc ss) 2 rfl ?_
  refine ev_ic (c := .lt) (off := 27) rfl (by decide) (fun (g1 : (f : Int) - 1 < 4) => ?_) (fun (g1 : ¬ ((f : Int) - 1 < 4)) => ?_)
  · show Ev X k_X8_smallest (60, [some (vr 0), some (vi (i : Int)), some (vi (tpF g i 32 0)), some (vi (f : Int)), some (vi ((f : Int) - 1))], []) (MS I J cc ss) _
    refine ev_n (fr' := (61, [some (vr 0), some (vi (i : Int)), some (vi (tpF g i 32 0)), some (vi (f : Int)), some (vi ((f : Int) - 1))], [vi (f : Int)])) (S' := MS I J cc ss) 1 rfl ?_
    refine ev_r rfl rfl rfl ?_
    exact ⟨_, _, rfl, congrArg (fun z => Sum.inl (some (vi z))) (by
      have e4 : f = 4 := by omega
      rw [hf, e4]; show _ = ((if 4 ≤ 3 ∧ _ then _ else 3 + 1 : Nat) : Int); rw [if_neg (by omega)]), rfl, hO⟩
  · show Ev X k_X8_smallest (36, [some (vr 0), some (vi (i : Int)), some (vi (tpF g i 32 0)), some (vi (f : Int)), some (vi ((f : Int) - 1))], []) (MS I J cc ss) _
    refine ev_n (fr' := (41, [some (vr 0), some (vi (i : Int)), some (vi (tpF g i 32 0)), some (vi (f : Int)), some (vi ((f : Int) - 1))], [vi 0, vi ((f : Int) - 1), vi (i : Int), vr 0])) (S' := MS I J cc ss) 4 rfl ?_
    refine ev_cz rfl rfl rfl ⟨Nat.le_of_ble_eq_true rfl, Nat.le_of_ble_eq_true rfl⟩ (sp_topologyZ X _ _ _ _ i ((f : Int) - 1) 0 hP hI hwp hwi (by omega) (by omega) (by omega)) (fun zI1 I1 J q2 => ?_)
    obtain ⟨rfl, rI1, hzI1⟩ := q2
    show Ev X k_X8_smallest (44, [some (vr 0), some (vi (i : Int)), some (vi (tpF g i 32 0)), some (vi (f : Int)), some (vi ((f : Int) - 1))], [vi zI1]) (MS I1 J cc ss) _
    rw [hzI1, show ((f : Int) - 1).toNat = f - 1 by omega]
    have hO := hO.trans rI1
    have hS := scrC.S rI1 (by decide) hS
    have hP := scrC.P rI1 (by decide) hP
    have hI := scrC.I rI1 (by decide) hI
    refine ev_n (fr' := (45, [some (vr 0), some (vi (i : Int)), some (vi (tpF g i 32 0)), some (vi (f : Int)), some (vi ((f : Int) - 1))], [vi (tpF g i 32 0), vi (tpF g i (f - 1) 0)])) (S' := MS I1 J cc ss) 1 rfl ?_
    refine ev_ic (c := .eq) (off := 6) rfl (by decide) (fun (g2 : (tpF g i (f - 1) 0) = (tpF g i 32 0)) => ?_) (fun (g2 : ¬ ((tpF g i (f - 1) 0) = (tpF g i 32 0))) => ?_)
    · show Ev X k_X8_smallest (51, [some (vr 0), some (vi (i : Int)), some (vi (tpF g i 32 0)), some (vi (f : Int)), some (vi ((f : Int) - 1))], []) (MS I1 J cc ss) _
      refine ev_n (fr' := (54, [some (vr 0), some (vi (i : Int)), some (vi (tpF g i 32 0)), some (vi ((f : Int) - 1)), some (vi ((f : Int) - 1))], [])) (S' := MS I1 J cc ss) 2 rfl ?_
      refine ev_inc (z := (f : Int) - 2) rfl rfl (by omega) (by omega) (by omega) rfl ?_
      show Ev X k_X8_smallest (57, [some (vr 0), some (vi (i : Int)), some (vi (tpF g i 32 0)), some (vi ((f : Int) - 1)), some (vi ((f : Int) - 2))], []) (MS I1 J cc ss) _
      refine ev_n (fr' := (30, [some (vr 0), some (vi (i : Int)), some (vi (tpF g i 32 0)), some (vi ((f : Int) - 1)), some (vi ((f : Int) - 2))], [])) (S' := MS I1 J cc ss) 1 rfl ?_
      rw [show (f : Int) - 2 = ((f - 1 : Nat) : Int) - 1 by omega, show (f : Int) - 1 = ((f - 1 : Nat) : Int) by omega]
      exact lp_sm X _ _ cc ss I0 i hS hP hI hws hwp hwi hi (f - 1) (by omega) (by
        rw [hf]
        obtain ⟨q, rfl⟩ : ∃ q, f = q + 1 := ⟨f - 1, by omega⟩
        show (if 4 ≤ q ∧ _ then smN g i q else q + 1) = _
        rw [if_pos ⟨by omega, g2⟩]; rfl) hO
    · show Ev X k_X8_smallest (48, [some (vr 0), some (vi (i : Int)), some (vi (tpF g i 32 0)), some (vi (f : Int)), some (vi ((f : Int) - 1))], []) (MS I1 J cc ss) _
      refine ev_n (fr' := (61, [some (vr 0), some (vi (i : Int)), some (vi (tpF g i 32 0)), some (vi (f : Int)), some (vi ((f : Int) - 1))], [vi (f : Int)])) (S' := MS I1 J cc ss) 2 rfl ?_
      refine ev_r rfl rfl rfl ?_
      exact ⟨_, _, rfl, congrArg (fun z => Sum.inl (some (vi z))) (by
        rw [hf]
        obtain ⟨q, rfl⟩ : ∃ q, f = q + 1 := ⟨f - 1, by omega⟩
        show _ = ((if 4 ≤ q ∧ tpF g i q 0 = _ then _ else q + 1 : Nat) : Int)
        rw [if_neg (fun z => g2 z.2)]), rfl, hO⟩
termination_by f
decreasing_by all_goals omega
theorem pb_smallest (X : AX) (I J : Nat → Nat → Int) (cc ss : Nat) {g : F1} (i : Nat) (hS : SRep I 1 g) (hP : PRep I J 5 g) (hI : IRep I J 9 g) (hws : WS g) (hwp : WP g) (hwi : WI g) (hi : (i : Int) < g 308) : Ev X k_X8_smallest (0, [some (vr 0), some (vi (i : Int)), none, none, none], []) (MS I J cc ss) (PV cc ss (some (vi ((smN g i 32 : Int)))) (fun I' J' => J' = J ∧ scrC I I')) := by
  have hO := scrC.refl I
  refine ev_n (fr' := (8, [some (vr 0), some (vi (i : Int)), none, none, none], [vi (i : Int), vr 9])) (S' := MS I J cc ss) 4 rfl ?_
  refine ev_cv rfl rfl rfl ⟨Nat.le_of_ble_eq_true rfl, Nat.le_of_ble_eq_true rfl⟩ (sp_hasRow_9 X _ _ _ _ (i : Int) hI) ?_
  show Ev X k_X8_smallest (11, [some (vr 0), some (vi (i : Int)), none, none, none], [vi (if 0 ≤ (i : Int) ∧ (i : Int) < g 308 then 1 else 0)]) (MS I J cc ss) _
  refine ev_s1 _ (by omega) ?_
  show Ev X k_X8_smallest (11, [some (vr 0), some (vi (i : Int)), none, none, none], [vi 1]) (MS I J cc ss) _
  refine ev_cv rfl rfl rfl ⟨Nat.le_of_ble_eq_true rfl, Nat.le_of_ble_eq_true rfl⟩ (sp_reqI1 X _) ?_
  show Ev X k_X8_smallest (14, [some (vr 0), some (vi (i : Int)), none, none, none], []) (MS I J cc ss) _
  refine ev_n (fr' := (19, [some (vr 0), some (vi (i : Int)), none, none, none], [vi 0, vi 32, vi (i : Int), vr 0])) (S' := MS I J cc ss) 4 rfl ?_
  refine ev_cz rfl rfl rfl ⟨Nat.le_of_ble_eq_true rfl, Nat.le_of_ble_eq_true rfl⟩ (sp_topologyZ X _ _ _ _ i 32 0 hP hI hwp hwi (by omega) (by omega) (by omega)) (fun zI1 I1 J q2 => ?_)
  obtain ⟨rfl, rI1, hzI1⟩ := q2
  show Ev X k_X8_smallest (22, [some (vr 0), some (vi (i : Int)), none, none, none], [vi zI1]) (MS I1 J cc ss) _
  rw [hzI1, show (32 : Int).toNat = 32 from rfl]
  have hO := hO.trans rI1
  have hS := scrC.S rI1 (by decide) hS
  have hP := scrC.P rI1 (by decide) hP
  have hI := scrC.I rI1 (by decide) hI
  refine ev_n (fr' := (30, [some (vr 0), some (vi (i : Int)), some (vi (tpF g i 32 0)), some (vi 32), some (vi 31)], [])) (S' := MS I1 J cc ss) 5 rfl ?_
  exact lp_sm X _ _ cc ss I i hS hP hI hws hwp hwi hi 32 (by omega) rfl hO
theorem sp_reqIc1 (X : AX) (I J : Nat → Nat → Int) (cc ss : Nat) {g : F1} (hI : IRep I J 9 g) (h : g 308 ≠ 0) : Ev X k_X8_requireIcons (0, [some (vr 0)], []) (MS I J cc ss) (fun o T => o = .inl none ∧ T = MS I J cc ss) := by
  refine ev_n (fr' := (7, [some (vr 0)], [vr 9])) (S' := MS I J cc ss) 3 rfl ?_
  refine ev_cv rfl rfl rfl ⟨Nat.le_of_ble_eq_true rfl, Nat.le_of_ble_eq_true rfl⟩ (sp_rowCount_9 X _ _ _ _  hI) ?_
  show Ev X k_X8_requireIcons (10, [some (vr 0)], [vi (g 308)]) (MS I J cc ss) _
  refine ev_if (c := .ne) (off := 14) rfl (by decide) (fun (g1 : (g 308) ≠ 0) => ?_) (fun (g1 : ¬ ((g 308) ≠ 0)) => False.elim (g1 h))
  show Ev X k_X8_requireIcons (24, [some (vr 0)], []) (MS I J cc ss) _
  refine ev_r rfl rfl rfl ?_
  exact ⟨rfl, rfl⟩
theorem sp_reqIc0 (X : AX) (I J : Nat → Nat → Int) (cc ss : Nat) {g : F1} (hI : IRep I J 9 g) (h : g 308 = 0) : Ev X k_X8_requireIcons (0, [some (vr 0)], []) (MS I J cc ss) (fun o T => o = .inr 3 ∧ T = MS I J (cc + 1) (ss + 6)) := by
  refine ev_n (fr' := (7, [some (vr 0)], [vr 9])) (S' := MS I J cc ss) 3 rfl ?_
  refine ev_cv rfl rfl rfl ⟨Nat.le_of_ble_eq_true rfl, Nat.le_of_ble_eq_true rfl⟩ (sp_rowCount_9 X _ _ _ _  hI) ?_
  show Ev X k_X8_requireIcons (10, [some (vr 0)], [vi (g 308)]) (MS I J cc ss) _
  refine ev_if (c := .ne) (off := 14) rfl (by decide) (fun (g1 : (g 308) ≠ 0) => False.elim (g1 h)) (fun (g1 : ¬ ((g 308) ≠ 0)) => ?_)
  show Ev X k_X8_requireIcons (13, [some (vr 0)], []) (MS I J cc ss) _
  refine ev_r rfl rfl rfl ?_
  exact ⟨rfl, rfl⟩
theorem pb_extreme_x (X : AX) (I J : Nat → Nat → Int) (cc ss : Nat) {g : F1} (y t : Int) (hS : SRep I 1 g) (hP : PRep I J 5 g) (hI : IRep I J 9 g) (hws : WS g) (hwp : WP g) (hwi : WI g) (h : ¬ (0 ≤ y ∧ y < g 0)) : Ev X k_X8_extreme (0, [some (vr 0), some (vi y), some (vi t), none, none, none, none], []) (MS I J cc ss) (fun o T => o = .inr 2 ∧ T = MS I J (cc + 1) (ss + 6)) := by
  refine ev_n (fr' := (8, [some (vr 0), some (vi y), some (vi t), none, none, none, none], [vi y, vr 2])) (S' := MS I J cc ss) 4 rfl ?_
  refine ev_cv rfl rfl rfl ⟨Nat.le_of_ble_eq_true rfl, Nat.le_of_ble_eq_true rfl⟩ (sp_has_2 X _ _ _ _ y hS) ?_
  show Ev X k_X8_extreme (11, [some (vr 0), some (vi y), some (vi t), none, none, none, none], [vi (if 0 ≤ y ∧ y < g 0 then 1 else 0)]) (MS I J cc ss) _
  refine ev_s0 _ (h) ?_
  show Ev X k_X8_extreme (11, [some (vr 0), some (vi y), some (vi t), none, none, none, none], [vi 0]) (MS I J cc ss) _
  refine ev_cx rfl rfl rfl ⟨Nat.le_of_ble_eq_true rfl, Nat.le_of_ble_eq_true rfl⟩ (sp_reqI0 X _ _ _ _) rfl ?_
  exact ⟨rfl, rfl⟩
theorem pb_extreme_y (X : AX) (I J : Nat → Nat → Int) (cc ss : Nat) {g : F1} (k : Nat) (t : Int) (hS : SRep I 1 g) (hP : PRep I J 5 g) (hI : IRep I J 9 g) (hws : WS g) (hwp : WP g) (hwi : WI g) (hk : (k : Int) < g 0) (h : g 308 = 0) : Ev X k_X8_extreme (0, [some (vr 0), some (vi (k : Int)), some (vi t), none, none, none, none], []) (MS I J cc ss) (fun o T => o = .inr 3 ∧ T = MS I J (cc + 1) (ss + 6)) := by
  refine ev_n (fr' := (8, [some (vr 0), some (vi (k : Int)), some (vi t), none, none, none, none], [vi (k : Int), vr 2])) (S' := MS I J cc ss) 4 rfl ?_
  refine ev_cv rfl rfl rfl ⟨Nat.le_of_ble_eq_true rfl, Nat.le_of_ble_eq_true rfl⟩ (sp_has_2 X _ _ _ _ (k : Int) hS) ?_
  show Ev X k_X8_extreme (11, [some (vr 0), some (vi (k : Int)), some (vi t), none, none, none, none], [vi (if 0 ≤ (k : Int) ∧ (k : Int) < g 0 then 1 else 0)]) (MS I J cc ss) _
  refine ev_s1 _ (by omega) ?_
  show Ev X k_X8_extreme (11, [some (vr 0), some (vi (k : Int)), some (vi t), none, none, none, none], [vi 1]) (MS I J cc ss) _
  refine ev_cv rfl rfl rfl ⟨Nat.le_of_ble_eq_true rfl, Nat.le_of_ble_eq_true rfl⟩ (sp_reqI1 X _) ?_
  show Ev X k_X8_extreme (14, [some (vr 0), some (vi (k : Int)), some (vi t), none, none, none, none], []) (MS I J cc ss) _
  refine ev_n (fr' := (15, [some (vr 0), some (vi (k : Int)), some (vi t), none, none, none, none], [vr 0])) (S' := MS I J cc ss) 1 rfl ?_
  refine ev_cx rfl rfl rfl ⟨Nat.le_of_ble_eq_true rfl, Nat.le_of_ble_eq_true rfl⟩ (sp_reqIc0 X _ _ _ _ hI h) rfl ?_
  exact ⟨rfl, rfl⟩
theorem lp_ex1 (X : AX) (I J : Nat → Nat → Int) (cc ss : Nat) {g : F1} (I0 : F2) (k : Nat) (hS : SRep I 1 g) (hP : PRep I J 5 g) (hI : IRep I J 9 g) (hws : WS g) (hwp : WP g) (hwi : WI g) (hk : (k : Int) < g 0) (hn0 : g 308 ≠ 0) (j : Nat) (fd fw : Int) (v6 : Option AV) (hj : (j : Int) ≤ g 308) (hfd : fd = ((exG (wtF g (g (2 * k + 1)) (g (2 * k + 2))) j : Nat) : Int)) (hfw : fw = (if j = 0 then (-1) else wtF g (g (2 * k + 1)) (g (2 * k + 2)) (exG (wtF g (g (2 * k + 1)) (g (2 * k + 2))) j))) (hO : scrC I0 I) : Ev X k_X8_extreme (36, [some (vr 0), some (vi (k : Int)), some (vi 1), some (vi fd), some (vi fw), some (vi (j : Int)), v6], []) (MS I J cc ss) (PV cc ss (some (vi ((exG (wtF g (g (2 * k + 1)) (g (2 * k + 2))) (g 308).toNat : Nat) : Int))) (fun I' J' => J' = J ∧ scrC I0 I')) := by
  have hr := hws.2.2.1 k hk
  have hr4 : 4 ≤ g (2 * k + 1) ∧ g (2 * k + 1) ≤ 32 := by omega
  have h8 := hwi.2.1
  refine ev_n (fr' := (45, [some (vr 0), some (vi (k : Int)), some (vi 1), some (vi fd), some (vi fw), some (vi (j : Int)), v6], [vr 9, vi (j : Int)])) (S' := MS I J cc ss) 4 rfl ?_
  refine ev_cv rfl rfl rfl ⟨Nat.le_of_ble_eq_true rfl, Nat.le_of_ble_eq_true rfl⟩ (sp_rowCount_9 X _ _ _ _  hI) ?_
  show Ev X k_X8_extreme (48, [some (vr 0), some (vi (k : Int)), some (vi 1), some (vi fd), some (vi fw), some (vi (j : Int)), v6], [vi (g 308), vi (j : Int)]) (MS I J cc ss) _
  refine ev_ic (c := .ge) (off := 57) rfl (by decide) (fun (g1 : (g 308) ≤ (j : Int)) => ?_) (fun (g1 : ¬ ((g 308) ≤ (j : Int))) => ?_)
  · show Ev X k_X8_extreme (105, [some (vr 0), some (vi (k : Int)), some (vi 1), some (vi fd), some (vi fw), some (vi (j : Int)), v6], []) (MS I J cc ss) _
    refine ev_n (fr' := (106, [some (vr 0), some (vi (k : Int)), some (vi 1), some (vi fd), some (vi fw), some (vi (j : Int)), v6], [vi fd])) (S' := MS I J cc ss) 1 rfl ?_
    refine ev_r rfl rfl rfl ?_
    exact ⟨_, _, rfl, congrArg (fun z => Sum.inl (some (vi z))) (by rw [hfd, show (g 308).toNat = j by omega]), rfl, hO⟩
  · show Ev X k_X8_extreme (51, [some (vr 0), some (vi (k : Int)), some (vi 1), some (vi fd), some (vi fw), some (vi (j : Int)), v6], []) (MS I J cc ss) _
    refine ev_n (fr' := (59, [some (vr 0), some (vi (k : Int)), some (vi 1), some (vi fd), some (vi fw), some (vi (j : Int)), v6], [vi (k : Int), vi (j : Int), vr 126, vr 0])) (S' := MS I J cc ss) 5 rfl ?_
    refine ev_cp rfl rfl rfl ⟨Nat.le_of_ble_eq_true rfl, Nat.le_of_ble_eq_true rfl⟩ (sp_drawAt_126 X _ _ _ _ j k hS hP hI hwp hwi hws (by omega) (by omega)) (fun I1 J q2 => ?_)
    obtain ⟨rfl, rI1, hD126⟩ := q2
    show Ev X k_X8_extreme (62, [some (vr 0), some (vi (k : Int)), some (vi 1), some (vi fd), some (vi fw), some (vi (j : Int)), v6], []) (MS I1 J cc ss) _
    have hO := hO.trans (rI1.scr (by decide))
    have hS := onlyD.S rI1 (by decide) (by decide) hS
    have hP := onlyD.P rI1 (by decide) (by decide) hP
    have hI := onlyD.I rI1 (by decide) (by decide) hI
    refine ev_n (fr' := (66, [some (vr 0), some (vi (k : Int)), some (vi 1), some (vi fd), some (vi fw), some (vi (j : Int)), v6], [vr 126])) (S' := MS I1 J cc ss) 2 rfl ?_
    refine ev_cv rfl rfl rfl ⟨Nat.le_of_ble_eq_true rfl, Nat.le_of_ble_eq_true rfl⟩ (sp_weight_126 X _ _ _ _ hD126 hr4) ?_
    show Ev X k_X8_extreme (69, [some (vr 0), some (vi (k : Int)), some (vi 1), some (vi fd), some (vi fw), some (vi (j : Int)), v6], [vi (wF (icF g j (g (2 * k + 1)) (g (2 * k + 2))) (g (2 * k + 1)))]) (MS I1 J cc ss) _
    refine ev_n (fr' := (79, [some (vr 0), some (vi (k : Int)), some (vi 1), some (vi fd), some (vi fw), some (vi (j : Int)), some (vi (wF (icF g j (g (2 * k + 1)) (g (2 * k + 2))) (g (2 * k + 1))))], [vi fw, vi (wF (icF g j (g (2 * k + 1)) (g (2 * k + 2))) (g (2 * k + 1)))])) (S' := MS I1 J cc ss) 5 rfl ?_
    refine ev_ic (c := .le) (off := 20) rfl (by decide) (fun (g2 : (wF (icF g j (g (2 * k + 1)) (g (2 * k + 2))) (g (2 * k + 1))) ≤ fw) => ?_) (fun (g2 : ¬ ((wF (icF g j (g (2 * k + 1)) (g (2 * k + 2))) (g (2 * k + 1))) ≤ fw)) => ?_)
    · show Ev X k_X8_extreme (99, [some (vr 0), some (vi (k : Int)), some (vi 1), some (vi fd), some (vi fw), some (vi (j : Int)), some (vi (wF (icF g j (g (2 * k + 1)) (g (2 * k + 2))) (g (2 * k + 1))))], []) (MS I1 J cc ss) _
      refine ev_inc (z := (j : Int) + 1) rfl rfl (by omega) (by omega) (by omega) rfl ?_
      show Ev X k_X8_extreme (102, [some (vr 0), some (vi (k : Int)), some (vi 1), some (vi fd), some (vi fw), some (vi ((j : Int) + 1)), some (vi (wF (icF g j (g (2 * k + 1)) (g (2 * k + 2))) (g (2 * k + 1))))], []) (MS I1 J cc ss) _
      refine ev_n (fr' := (36, [some (vr 0), some (vi (k : Int)), some (vi 1), some (vi fd), some (vi fw), some (vi ((j : Int) + 1)), some (vi (wF (icF g j (g (2 * k + 1)) (g (2 * k + 2))) (g (2 * k + 1))))], [])) (S' := MS I1 J cc ss) 1 rfl ?_
      have hst : exG (wtF g (g (2 * k + 1)) (g (2 * k + 2))) (j + 1) = (if j = 0 then 0 else if wtF g (g (2 * k + 1)) (g (2 * k + 2)) (exG (wtF g (g (2 * k + 1)) (g (2 * k + 2))) j) < wtF g (g (2 * k + 1)) (g (2 * k + 2)) j then j else exG (wtF g (g (2 * k + 1)) (g (2 * k + 2))) j) := rfl
      by_cases e0 : j = 0
      · rw [if_pos e0] at hst
        exfalso
        rw [hfw, if_pos e0] at g2
        have := wtF_rng (g := g) (e := g (2 * k + 2)) hr4 j
        have h99 : wtF g (g (2 * k + 1)) (g (2 * k + 2)) j = wF (icF g j (g (2 * k + 1)) (g (2 * k + 2))) (g (2 * k + 1)) := rfl
        omega
      · rw [if_neg e0] at hst
        rw [hfw, if_neg e0] at g2
        rw [if_neg (show ¬ (wtF g (g (2 * k + 1)) (g (2 * k + 2)) (exG (wtF g (g (2 * k + 1)) (g (2 * k + 2))) j) < wtF g (g (2 * k + 1)) (g (2 * k + 2)) j) by have h99 : wtF g (g (2 * k + 1)) (g (2 * k + 2)) j = wF (icF g j (g (2 * k + 1)) (g (2 * k + 2))) (g (2 * k + 1)) := rfl; omega)] at hst
        exact lp_ex1 X _ _ cc ss I0 k hS hP hI hws hwp hwi hk hn0 (j + 1) _ _ _ (by omega) (by rw [hst]; exact hfd) (by rw [if_neg (by omega), hst]; first | exact hfw | (rw [if_neg e0] at hfw; exact hfw)) hO
    · show Ev X k_X8_extreme (82, [some (vr 0), some (vi (k : Int)), some (vi 1), some (vi fd), some (vi fw), some (vi (j : Int)), some (vi (wF (icF g j (g (2 * k + 1)) (g (2 * k + 2))) (g (2 * k + 1))))], []) (MS I1 J cc ss) _
      refine ev_n (fr' := (99, [some (vr 0), some (vi (k : Int)), some (vi 1), some (vi (j : Int)), some (vi (wF (icF g j (g (2 * k + 1)) (g (2 * k + 2))) (g (2 * k + 1)))), some (vi (j : Int)), some (vi (wF (icF g j (g (2 * k + 1)) (g (2 * k + 2))) (g (2 * k + 1))))], [])) (S' := MS I1 J cc ss) 5 rfl ?_
      refine ev_inc (z := (j : Int) + 1) rfl rfl (by omega) (by omega) (by omega) rfl ?_
      show Ev X k_X8_extreme (102, [some (vr 0), some (vi (k : Int)), some (vi 1), some (vi (j : Int)), some (vi (wF (icF g j (g (2 * k + 1)) (g (2 * k + 2))) (g (2 * k + 1)))), some (vi ((j : Int) + 1)), some (vi (wF (icF g j (g (2 * k + 1)) (g (2 * k + 2))) (g (2 * k + 1))))], []) (MS I1 J cc ss) _
      refine ev_n (fr' := (36, [some (vr 0), some (vi (k : Int)), some (vi 1), some (vi (j : Int)), some (vi (wF (icF g j (g (2 * k + 1)) (g (2 * k + 2))) (g (2 * k + 1)))), some (vi ((j : Int) + 1)), some (vi (wF (icF g j (g (2 * k + 1)) (g (2 * k + 2))) (g (2 * k + 1))))], [])) (S' := MS I1 J cc ss) 1 rfl ?_
      have hst : exG (wtF g (g (2 * k + 1)) (g (2 * k + 2))) (j + 1) = (if j = 0 then 0 else if wtF g (g (2 * k + 1)) (g (2 * k + 2)) (exG (wtF g (g (2 * k + 1)) (g (2 * k + 2))) j) < wtF g (g (2 * k + 1)) (g (2 * k + 2)) j then j else exG (wtF g (g (2 * k + 1)) (g (2 * k + 2))) j) := rfl
      by_cases e0 : j = 0
      · rw [if_pos e0] at hst
        exact lp_ex1 X _ _ cc ss I0 k hS hP hI hws hwp hwi hk hn0 (j + 1) _ _ _ (by omega) (by rw [hst, e0]) (by rw [if_neg (by omega), hst, e0]; rfl) hO
      · rw [if_neg e0] at hst
        rw [hfw, if_neg e0] at g2
        rw [if_pos (show wtF g (g (2 * k + 1)) (g (2 * k + 2)) (exG (wtF g (g (2 * k + 1)) (g (2 * k + 2))) j) < wtF g (g (2 * k + 1)) (g (2 * k + 2)) j by have h99 : wtF g (g (2 * k + 1)) (g (2 * k + 2)) j = wF (icF g j (g (2 * k + 1)) (g (2 * k + 2))) (g (2 * k + 1)) := rfl; omega)] at hst
        exact lp_ex1 X _ _ cc ss I0 k hS hP hI hws hwp hwi hk hn0 (j + 1) _ _ _ (by omega) (by rw [hst]) (by rw [if_neg (by omega), hst]; rfl) hO
termination_by 9 - j
decreasing_by all_goals omega
theorem pb_extreme_1 (X : AX) (I J : Nat → Nat → Int) (cc ss : Nat) {g : F1} (k : Nat) (hS : SRep I 1 g) (hP : PRep I J 5 g) (hI : IRep I J 9 g) (hws : WS g) (hwp : WP g) (hwi : WI g) (hk : (k : Int) < g 0) (hn0 : g 308 ≠ 0) : Ev X k_X8_extreme (0, [some (vr 0), some (vi (k : Int)), some (vi 1), none, none, none, none], []) (MS I J cc ss) (PV cc ss (some (vi (((exG (wtF g (g (2 * k + 1)) (g (2 * k + 2))) (g 308).toNat : Nat) : Int)))) (fun I' J' => J' = J ∧ scrC I I')) := by
  refine ev_n (fr' := (8, [some (vr 0), some (vi (k : Int)), some (vi 1), none, none, none, none], [vi (k : Int), vr 2])) (S' := MS I J cc ss) 4 rfl ?_
  refine ev_cv rfl rfl rfl ⟨Nat.le_of_ble_eq_true rfl, Nat.le_of_ble_eq_true rfl⟩ (sp_has_2 X _ _ _ _ (k : Int) hS) ?_
  show Ev X k_X8_extreme (11, [some (vr 0), some (vi (k : Int)), some (vi 1), none, none, none, none], [vi (if 0 ≤ (k : Int) ∧ (k : Int) < g 0 then 1 else 0)]) (MS I J cc ss) _
  refine ev_s1 _ (by omega) ?_
  show Ev X k_X8_extreme (11, [some (vr 0), some (vi (k : Int)), some (vi 1), none, none, none, none], [vi 1]) (MS I J cc ss) _
  refine ev_cv rfl rfl rfl ⟨Nat.le_of_ble_eq_true rfl, Nat.le_of_ble_eq_true rfl⟩ (sp_reqI1 X _) ?_
  show Ev X k_X8_extreme (14, [some (vr 0), some (vi (k : Int)), some (vi 1), none, none, none, none], []) (MS I J cc ss) _
  refine ev_n (fr' := (15, [some (vr 0), some (vi (k : Int)), some (vi 1), none, none, none, none], [vr 0])) (S' := MS I J cc ss) 1 rfl ?_
  refine ev_cv rfl rfl rfl ⟨Nat.le_of_ble_eq_true rfl, Nat.le_of_ble_eq_true rfl⟩ (sp_reqIc1 X _ _ _ _ hI hn0) ?_
  show Ev X k_X8_extreme (18, [some (vr 0), some (vi (k : Int)), some (vi 1), none, none, none, none], []) (MS I J cc ss) _
  refine ev_n (fr' := (36, [some (vr 0), some (vi (k : Int)), some (vi 1), some (vi 0), some (vi (-1)), some (vi 0), none], [])) (S' := MS I J cc ss) 9 rfl ?_
  exact lp_ex1 X _ _ cc ss I k hS hP hI hws hwp hwi hk hn0 0 _ _ _ (by have := hwi.1; omega) rfl (if_pos rfl).symm (scrC.refl _)
theorem lp_ex0 (X : AX) (I J : Nat → Nat → Int) (cc ss : Nat) {g : F1} (I0 : F2) (k : Nat) (hS : SRep I 1 g) (hP : PRep I J 5 g) (hI : IRep I J 9 g) (hws : WS g) (hwp : WP g) (hwi : WI g) (hk : (k : Int) < g 0) (hn0 : g 308 ≠ 0) (j : Nat) (fd fw : Int) (v6 : Option AV) (hj : (j : Int) ≤ g 308) (hfd : fd = ((exL (wtF g (g (2 * k + 1)) (g (2 * k + 2))) j : Nat) : Int)) (hfw : fw = (if j = 0 then 1001 else wtF g (g (2 * k + 1)) (g (2 * k + 2)) (exL (wtF g (g (2 * k + 1)) (g (2 * k + 2))) j))) (hO : scrC I0 I) : Ev X k_X8_extreme (36, [some (vr 0), some (vi (k : Int)), some (vi 0), some (vi fd), some (vi fw), some (vi (j : Int)), v6], []) (MS I J cc ss) (PV cc ss (some (vi ((exL (wtF g (g (2 * k + 1)) (g (2 * k + 2))) (g 308).toNat : Nat) : Int))) (fun I' J' => J' = J ∧ scrC I0 I')) := by
  have hr := hws.2.2.1 k hk
  have hr4 : 4 ≤ g (2 * k + 1) ∧ g (2 * k + 1) ≤ 32 := by omega
  have h8 := hwi.2.1
  refine ev_n (fr' := (45, [some (vr 0), some (vi (k : Int)), some (vi 0), some (vi fd), some (vi fw), some (vi (j : Int)), v6], [vr 9, vi (j : Int)])) (S' := MS I J cc ss) 4 rfl ?_
  refine ev_cv rfl rfl rfl ⟨Nat.le_of_ble_eq_true rfl, Nat.le_of_ble_eq_true rfl⟩ (sp_rowCount_9 X _ _ _ _  hI) ?_
  show Ev X k_X8_extreme (48, [some (vr 0), some (vi (k : Int)), some (vi 0), some (vi fd), some (vi fw), some (vi (j : Int)), v6], [vi (g 308), vi (j : Int)]) (MS I J cc ss) _
  refine ev_ic (c := .ge) (off := 57) rfl (by decide) (fun (g1 : (g 308) ≤ (j : Int)) => ?_) (fun (g1 : ¬ ((g 308) ≤ (j : Int))) => ?_)
  · show Ev X k_X8_extreme (105, [some (vr 0), some (vi (k : Int)), some (vi 0), some (vi fd), some (vi fw), some (vi (j : Int)), v6], []) (MS I J cc ss) _
    refine ev_n (fr' := (106, [some (vr 0), some (vi (k : Int)), some (vi 0), some (vi fd), some (vi fw), some (vi (j : Int)), v6], [vi fd])) (S' := MS I J cc ss) 1 rfl ?_
    refine ev_r rfl rfl rfl ?_
    exact ⟨_, _, rfl, congrArg (fun z => Sum.inl (some (vi z))) (by rw [hfd, show (g 308).toNat = j by omega]), rfl, hO⟩
  · show Ev X k_X8_extreme (51, [some (vr 0), some (vi (k : Int)), some (vi 0), some (vi fd), some (vi fw), some (vi (j : Int)), v6], []) (MS I J cc ss) _
    refine ev_n (fr' := (59, [some (vr 0), some (vi (k : Int)), some (vi 0), some (vi fd), some (vi fw), some (vi (j : Int)), v6], [vi (k : Int), vi (j : Int), vr 126, vr 0])) (S' := MS I J cc ss) 5 rfl ?_
    refine ev_cp rfl rfl rfl ⟨Nat.le_of_ble_eq_true rfl, Nat.le_of_ble_eq_true rfl⟩ (sp_drawAt_126 X _ _ _ _ j k hS hP hI hwp hwi hws (by omega) (by omega)) (fun I1 J q2 => ?_)
    obtain ⟨rfl, rI1, hD126⟩ := q2
    show Ev X k_X8_extreme (62, [some (vr 0), some (vi (k : Int)), some (vi 0), some (vi fd), some (vi fw), some (vi (j : Int)), v6], []) (MS I1 J cc ss) _
    have hO := hO.trans (rI1.scr (by decide))
    have hS := onlyD.S rI1 (by decide) (by decide) hS
    have hP := onlyD.P rI1 (by decide) (by decide) hP
    have hI := onlyD.I rI1 (by decide) (by decide) hI
    refine ev_n (fr' := (66, [some (vr 0), some (vi (k : Int)), some (vi 0), some (vi fd), some (vi fw), some (vi (j : Int)), v6], [vr 126])) (S' := MS I1 J cc ss) 2 rfl ?_
    refine ev_cv rfl rfl rfl ⟨Nat.le_of_ble_eq_true rfl, Nat.le_of_ble_eq_true rfl⟩ (sp_weight_126 X _ _ _ _ hD126 hr4) ?_
    show Ev X k_X8_extreme (69, [some (vr 0), some (vi (k : Int)), some (vi 0), some (vi fd), some (vi fw), some (vi (j : Int)), v6], [vi (wF (icF g j (g (2 * k + 1)) (g (2 * k + 2))) (g (2 * k + 1)))]) (MS I1 J cc ss) _
    refine ev_n (fr' := (89, [some (vr 0), some (vi (k : Int)), some (vi 0), some (vi fd), some (vi fw), some (vi (j : Int)), some (vi (wF (icF g j (g (2 * k + 1)) (g (2 * k + 2))) (g (2 * k + 1))))], [vi fw, vi (wF (icF g j (g (2 * k + 1)) (g (2 * k + 2))) (g (2 * k + 1)))])) (S' := MS I1 J cc ss) 5 rfl ?_
    refine ev_ic (c := .ge) (off := 10) rfl (by decide) (fun (g2 : fw ≤ (wF (icF g j (g (2 * k + 1)) (g (2 * k + 2))) (g (2 * k + 1)))) => ?_) (fun (g2 : ¬ (fw ≤ (wF (icF g j (g (2 * k + 1)) (g (2 * k + 2))) (g (2 * k + 1))))) => ?_)
    · show Ev X k_X8_extreme (99, [some (vr 0), some (vi (k : Int)), some (vi 0), some (vi fd), some (vi fw), some (vi (j : Int)), some (vi (wF (icF g j (g (2 * k + 1)) (g (2 * k + 2))) (g (2 * k + 1))))], []) (MS I1 J cc ss) _
      refine ev_inc (z := (j : Int) + 1) rfl rfl (by omega) (by omega) (by omega) rfl ?_
      show Ev X k_X8_extreme (102, [some (vr 0), some (vi (k : Int)), some (vi 0), some (vi fd), some (vi fw), some (vi ((j : Int) + 1)), some (vi (wF (icF g j (g (2 * k + 1)) (g (2 * k + 2))) (g (2 * k + 1))))], []) (MS I1 J cc ss) _
      refine ev_n (fr' := (36, [some (vr 0), some (vi (k : Int)), some (vi 0), some (vi fd), some (vi fw), some (vi ((j : Int) + 1)), some (vi (wF (icF g j (g (2 * k + 1)) (g (2 * k + 2))) (g (2 * k + 1))))], [])) (S' := MS I1 J cc ss) 1 rfl ?_
      have hst : exL (wtF g (g (2 * k + 1)) (g (2 * k + 2))) (j + 1) = (if j = 0 then 0 else if wtF g (g (2 * k + 1)) (g (2 * k + 2)) j < wtF g (g (2 * k + 1)) (g (2 * k + 2)) (exL (wtF g (g (2 * k + 1)) (g (2 * k + 2))) j) then j else exL (wtF g (g (2 * k + 1)) (g (2 * k + 2))) j) := rfl
      by_cases e0 : j = 0
      · rw [if_pos e0] at hst
        exfalso
        rw [hfw, if_pos e0] at g2
        have := wtF_rng (g := g) (e := g (2 * k + 2)) hr4 j
        have h99 : wtF g (g (2 * k + 1)) (g (2 * k + 2)) j = wF (icF g j (g (2 * k + 1)) (g (2 * k + 2))) (g (2 * k + 1)) := rfl
        omega
      · rw [if_neg e0] at hst
        rw [hfw, if_neg e0] at g2
        rw [if_neg (show ¬ (wtF g (g (2 * k + 1)) (g (2 * k + 2)) j < wtF g (g (2 * k + 1)) (g (2 * k + 2)) (exL (wtF g (g (2 * k + 1)) (g (2 * k + 2))) j)) by have h99 : wtF g (g (2 * k + 1)) (g (2 * k + 2)) j = wF (icF g j (g (2 * k + 1)) (g (2 * k + 2))) (g (2 * k + 1)) := rfl; omega)] at hst
        exact lp_ex0 X _ _ cc ss I0 k hS hP hI hws hwp hwi hk hn0 (j + 1) _ _ _ (by omega) (by rw [hst]; exact hfd) (by rw [if_neg (by omega), hst]; first | exact hfw | (rw [if_neg e0] at hfw; exact hfw)) hO
    · show Ev X k_X8_extreme (92, [some (vr 0), some (vi (k : Int)), some (vi 0), some (vi fd), some (vi fw), some (vi (j : Int)), some (vi (wF (icF g j (g (2 * k + 1)) (g (2 * k + 2))) (g (2 * k + 1))))], []) (MS I1 J cc ss) _
      refine ev_n (fr' := (99, [some (vr 0), some (vi (k : Int)), some (vi 0), some (vi (j : Int)), some (vi (wF (icF g j (g (2 * k + 1)) (g (2 * k + 2))) (g (2 * k + 1)))), some (vi (j : Int)), some (vi (wF (icF g j (g (2 * k + 1)) (g (2 * k + 2))) (g (2 * k + 1))))], [])) (S' := MS I1 J cc ss) 4 rfl ?_
      refine ev_inc (z := (j : Int) + 1) rfl rfl (by omega) (by omega) (by omega) rfl ?_
      show Ev X k_X8_extreme (102, [some (vr 0), some (vi (k : Int)), some (vi 0), some (vi (j : Int)), some (vi (wF (icF g j (g (2 * k + 1)) (g (2 * k + 2))) (g (2 * k + 1)))), some (vi ((j : Int) + 1)), some (vi (wF (icF g j (g (2 * k + 1)) (g (2 * k + 2))) (g (2 * k + 1))))], []) (MS I1 J cc ss) _
      refine ev_n (fr' := (36, [some (vr 0), some (vi (k : Int)), some (vi 0), some (vi (j : Int)), some (vi (wF (icF g j (g (2 * k + 1)) (g (2 * k + 2))) (g (2 * k + 1)))), some (vi ((j : Int) + 1)), some (vi (wF (icF g j (g (2 * k + 1)) (g (2 * k + 2))) (g (2 * k + 1))))], [])) (S' := MS I1 J cc ss) 1 rfl ?_
      have hst : exL (wtF g (g (2 * k + 1)) (g (2 * k + 2))) (j + 1) = (if j = 0 then 0 else if wtF g (g (2 * k + 1)) (g (2 * k + 2)) j < wtF g (g (2 * k + 1)) (g (2 * k + 2)) (exL (wtF g (g (2 * k + 1)) (g (2 * k + 2))) j) then j else exL (wtF g (g (2 * k + 1)) (g (2 * k + 2))) j) := rfl
      by_cases e0 : j = 0
      · rw [if_pos e0] at hst
        exact lp_ex0 X _ _ cc ss I0 k hS hP hI hws hwp hwi hk hn0 (j + 1) _ _ _ (by omega) (by rw [hst, e0]) (by rw [if_neg (by omega), hst, e0]; rfl) hO
      · rw [if_neg e0] at hst
        rw [hfw, if_neg e0] at g2
        rw [if_pos (show wtF g (g (2 * k + 1)) (g (2 * k + 2)) j < wtF g (g (2 * k + 1)) (g (2 * k + 2)) (exL (wtF g (g (2 * k + 1)) (g (2 * k + 2))) j) by have h99 : wtF g (g (2 * k + 1)) (g (2 * k + 2)) j = wF (icF g j (g (2 * k + 1)) (g (2 * k + 2))) (g (2 * k + 1)) := rfl; omega)] at hst
        exact lp_ex0 X _ _ cc ss I0 k hS hP hI hws hwp hwi hk hn0 (j + 1) _ _ _ (by omega) (by rw [hst]) (by rw [if_neg (by omega), hst]; rfl) hO
termination_by 9 - j
decreasing_by all_goals omega
theorem pb_extreme_0 (X : AX) (I J : Nat → Nat → Int) (cc ss : Nat) {g : F1} (k : Nat) (hS : SRep I 1 g) (hP : PRep I J 5 g) (hI : IRep I J 9 g) (hws : WS g) (hwp : WP g) (hwi : WI g) (hk : (k : Int) < g 0) (hn0 : g 308 ≠ 0) : Ev X k_X8_extreme (0, [some (vr 0), some (vi (k : Int)), some (vi 0), none, none, none, none], []) (MS I J cc ss) (PV cc ss (some (vi (((exL (wtF g (g (2 * k + 1)) (g (2 * k + 2))) (g 308).toNat : Nat) : Int)))) (fun I' J' => J' = J ∧ scrC I I')) := by
  refine ev_n (fr' := (8, [some (vr 0), some (vi (k : Int)), some (vi 0), none, none, none, none], [vi (k : Int), vr 2])) (S' := MS I J cc ss) 4 rfl ?_
  refine ev_cv rfl rfl rfl ⟨Nat.le_of_ble_eq_true rfl, Nat.le_of_ble_eq_true rfl⟩ (sp_has_2 X _ _ _ _ (k : Int) hS) ?_
  show Ev X k_X8_extreme (11, [some (vr 0), some (vi (k : Int)), some (vi 0), none, none, none, none], [vi (if 0 ≤ (k : Int) ∧ (k : Int) < g 0 then 1 else 0)]) (MS I J cc ss) _
  refine ev_s1 _ (by omega) ?_
  show Ev X k_X8_extreme (11, [some (vr 0), some (vi (k : Int)), some (vi 0), none, none, none, none], [vi 1]) (MS I J cc ss) _
  refine ev_cv rfl rfl rfl ⟨Nat.le_of_ble_eq_true rfl, Nat.le_of_ble_eq_true rfl⟩ (sp_reqI1 X _) ?_
  show Ev X k_X8_extreme (14, [some (vr 0), some (vi (k : Int)), some (vi 0), none, none, none, none], []) (MS I J cc ss) _
  refine ev_n (fr' := (15, [some (vr 0), some (vi (k : Int)), some (vi 0), none, none, none, none], [vr 0])) (S' := MS I J cc ss) 1 rfl ?_
  refine ev_cv rfl rfl rfl ⟨Nat.le_of_ble_eq_true rfl, Nat.le_of_ble_eq_true rfl⟩ (sp_reqIc1 X _ _ _ _ hI hn0) ?_
  show Ev X k_X8_extreme (18, [some (vr 0), some (vi (k : Int)), some (vi 0), none, none, none, none], []) (MS I J cc ss) _
  refine ev_n (fr' := (36, [some (vr 0), some (vi (k : Int)), some (vi 0), some (vi 0), some (vi 1001), some (vi 0), none], [])) (S' := MS I J cc ss) 8 rfl ?_
  exact lp_ex0 X _ _ cc ss I k hS hP hI hws hwp hwi hk hn0 0 _ _ _ (by have := hwi.1; omega) rfl (if_pos rfl).symm (scrC.refl _)
