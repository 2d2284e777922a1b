/-! PUBLIC QUESTIONS, class, indifferent icons and best extra (printed by gen/g69.py) -/
theorem lp_in (X : AX) (I J : Nat → Nat → Int) (cc ss : Nat) {g : F1} (I0 : F2) (p k : Nat) (hS : SRep I 1 g) (hP : PRep I J 5 g) (hI : IRep I J 9 g) (hws : WS g) (hwp : WP g) (hwi : WI g) (hp : (p : Int) < g 11) (hk : (k : Int) < g 0) (j : Nat) (z : Int) (hj : (j : Int) ≤ g 308) (hz : z = zeF (inF g p (g (2 * k + 1)) (g (2 * k + 2))) j) (hO : scrC I0 I) : Ev X k_X8_indifferent (41, [some (vr 0), some (vi (p : Int)), some (vi (k : Int)), some (vi z), some (vi (j : Int))], []) (MS I J cc ss) (PV cc ss (some (vi (zeF (inF g p (g (2 * k + 1)) (g (2 * k + 2))) (g 308).toNat))) (fun I' J' => J' = J ∧ scrC I0 I')) := by
  have hr := hws.2.2.1 k hk
  have h8 := hwi.1
  have h9 := hwi.2.1
  have h5 := hwp.1
  have hzr := zeF_rng (inF g p (g (2 * k + 1)) (g (2 * k + 2))) j
  refine ev_n (fr' := (50, [some (vr 0), some (vi (p : Int)), some (vi (k : Int)), some (vi z), some (vi (j : Int))], [vr 9, vi (j : Int)])) (S' := MS I J cc ss) 4 rfl ?_
  refine ev_cv rfl rfl rfl ⟨Nat.le_of_ble_eq_true rfl, Nat.le_of_ble_eq_true rfl⟩ (sp_rowCount_9 X _ _ _ _  hI) ?_
  show Ev X k_X8_indifferent (53, [some (vr 0), some (vi (p : Int)), some (vi (k : Int)), some (vi z), some (vi (j : Int))], [vi (g 308), vi (j : Int)]) (MS I J cc ss) _
  refine ev_ic (c := .ge) (off := 81) rfl (by decide) (fun (g1 : (g 308) ≤ (j : Int)) => ?_) (fun (g1 : ¬ ((g 308) ≤ (j : Int))) => ?_)
  · show Ev X k_X8_indifferent (134, [some (vr 0), some (vi (p : Int)), some (vi (k : Int)), some (vi z), some (vi (j : Int))], []) (MS I J cc ss) _
    refine ev_n (fr' := (135, [some (vr 0), some (vi (p : Int)), some (vi (k : Int)), some (vi z), some (vi (j : Int))], [vi z])) (S' := MS I J cc ss) 1 rfl ?_
    refine ev_r rfl rfl rfl ?_
    exact ⟨_, _, rfl, congrArg (fun z => Sum.inl (some (vi z))) (by rw [hz, show (g 308).toNat = j by omega]), rfl, hO⟩
  · show Ev X k_X8_indifferent (56, [some (vr 0), some (vi (p : Int)), some (vi (k : Int)), some (vi z), some (vi (j : Int))], []) (MS I J cc ss) _
    refine ev_n (fr' := (64, [some (vr 0), some (vi (p : Int)), some (vi (k : Int)), some (vi z), some (vi (j : Int))], [vi (k : Int), vi (j : Int), vr 126, vr 0])) (S' := MS I J cc ss) 5 rfl ?_
    refine ev_cp rfl rfl rfl ⟨Nat.le_of_ble_eq_true rfl, Nat.le_of_ble_eq_true rfl⟩ (sp_drawAt_126 X _ _ _ _ j k hS hP hI hwp hwi hws (by omega) (by omega)) (fun I1 J q2 => ?_)
    obtain ⟨rfl, rI1, hD126⟩ := q2
    show Ev X k_X8_indifferent (67, [some (vr 0), some (vi (p : Int)), some (vi (k : Int)), some (vi z), some (vi (j : Int))], []) (MS I1 J cc ss) _
    have hO := hO.trans (rI1.scr (by decide))
    have hS := onlyD.S rI1 (by decide) (by decide) hS
    have hP := onlyD.P rI1 (by decide) (by decide) hP
    have hI := onlyD.I rI1 (by decide) (by decide) hI
    refine ev_n (fr' := (79, [some (vr 0), some (vi (p : Int)), some (vi (k : Int)), some (vi z), some (vi (j : Int))], [vi (k : Int), vr 2, vr 128])) (S' := MS I1 J cc ss) 6 rfl ?_
    refine ev_cv rfl rfl rfl ⟨Nat.le_of_ble_eq_true rfl, Nat.le_of_ble_eq_true rfl⟩ (sp_pixelsOf_2 X _ _ _ _ k hS hws (by omega)) ?_
    show Ev X k_X8_indifferent (82, [some (vr 0), some (vi (p : Int)), some (vi (k : Int)), some (vi z), some (vi (j : Int))], [vi (g (2 * k + 1)), vr 128]) (MS I1 J cc ss) _
    refine ev_n (fr' := (90, [some (vr 0), some (vi (p : Int)), some (vi (k : Int)), some (vi z), some (vi (j : Int))], [vi (k : Int), vr 2, vi (g (2 * k + 1)), vr 128])) (S' := MS I1 J cc ss) 4 rfl ?_
    refine ev_cv rfl rfl rfl ⟨Nat.le_of_ble_eq_true rfl, Nat.le_of_ble_eq_true rfl⟩ (sp_extraOf_2 X _ _ _ _ k hS hws (by omega)) ?_
    show Ev X k_X8_indifferent (93, [some (vr 0), some (vi (p : Int)), some (vi (k : Int)), some (vi z), some (vi (j : Int))], [vi (g (2 * k + 2)), vi (g (2 * k + 1)), vr 128]) (MS I1 J cc ss) _
    refine ev_cp rfl rfl rfl ⟨Nat.le_of_ble_eq_true rfl, Nat.le_of_ble_eq_true rfl⟩ (sp_start_128 X _ _ _ _ (P := (g (2 * k + 1))) (e := (g (2 * k + 2))) (by omega)) (fun I3 J q4 => ?_)
    obtain ⟨rfl, rI3, hD128⟩ := q4
    show Ev X k_X8_indifferent (96, [some (vr 0), some (vi (p : Int)), some (vi (k : Int)), some (vi z), some (vi (j : Int))], []) (MS I3 J cc ss) _
    have hO := hO.trans (rI3.scr (by decide))
    have hP := onlyD.P rI3 (by decide) (by decide) hP
    have hI := onlyD.I rI3 (by decide) (by decide) hI
    have hD126 : DR I3 126 (g (2 * k + 1)) (g (2 * k + 2)) (icF g j (g (2 * k + 1)) (g (2 * k + 2))) := by
      unfold DR at hD126 ⊢; rw [rI3 126 (by decide) (by decide), rI3 127 (by decide) (by decide)]; exact hD126
    have hS := onlyD.S rI3 (by decide) (by decide) hS
    refine ev_n (fr' := (108, [some (vr 0), some (vi (p : Int)), some (vi (k : Int)), some (vi z), some (vi (j : Int))], [vi (p : Int), vi (-1), vi (j : Int), vr 1, vr 128])) (S' := MS I3 J cc ss) 7 rfl ?_
    refine ev_cp rfl rfl rfl ⟨Nat.le_of_ble_eq_true rfl, Nat.le_of_ble_eq_true rfl⟩ (sp_inkIcon_128 X _ _ _ _ j (-1) (p : Int) (by omega) (by omega) hwp hwi (by omega) hP hI hD128) (fun I5 J q6 => ?_)
    obtain ⟨rfl, rI5, hD128⟩ := q6
    show Ev X k_X8_indifferent (111, [some (vr 0), some (vi (p : Int)), some (vi (k : Int)), some (vi z), some (vi (j : Int))], []) (MS I5 J cc ss) _
    have hO := hO.trans (rI5.scr (by decide))
    skip
    have hP := onlyD.P rI5 (by decide) (by decide) hP
    have hI := onlyD.I rI5 (by decide) (by decide) hI
    have hD128 := hD128.congr (D' := iconB g j (-1) (p : Int) ((g (2 * k + 1))) ((g (2 * k + 2)))) (fun y x => Bool.false_or _)
    have hD126 : DR I5 126 (g (2 * k + 1)) (g (2 * k + 2)) (icF g j (g (2 * k + 1)) (g (2 * k + 2))) := by
      unfold DR at hD126 ⊢; rw [rI5 126 (by decide) (by decide), rI5 127 (by decide) (by decide)]; exact hD126
    have hS := onlyD.S rI5 (by decide) (by decide) hS
    refine ev_n (fr' := (119, [some (vr 0), some (vi (p : Int)), some (vi (k : Int)), some (vi z), some (vi (j : Int))], [vr 128, vr 126])) (S' := MS I5 J cc ss) 4 rfl ?_
    refine ev_cv rfl rfl rfl ⟨Nat.le_of_ble_eq_true rfl, Nat.le_of_ble_eq_true rfl⟩ (sp_pixelsUnlike_126 X _ _ _ _ hD126 hD128) ?_
    show Ev X k_X8_indifferent (122, [some (vr 0), some (vi (p : Int)), some (vi (k : Int)), some (vi z), some (vi (j : Int))], [vi (inF g p (g (2 * k + 1)) (g (2 * k + 2)) j)]) (MS I5 J cc ss) _
    refine ev_if (c := .ne) (off := 6) rfl (by decide) (fun (g2 : (inF g p (g (2 * k + 1)) (g (2 * k + 2)) j) ≠ 0) => ?_) (fun (g2 : ¬ ((inF g p (g (2 * k + 1)) (g (2 * k + 2)) j) ≠ 0)) => ?_)
    · show Ev X k_X8_indifferent (128, [some (vr 0), some (vi (p : Int)), some (vi (k : Int)), some (vi z), some (vi (j : Int))], []) (MS I5 J cc ss) _
      refine ev_inc (z := (j : Int) + 1) rfl rfl (by omega) (by omega) (by omega) rfl ?_
      show Ev X k_X8_indifferent (131, [some (vr 0), some (vi (p : Int)), some (vi (k : Int)), some (vi z), some (vi ((j : Int) + 1))], []) (MS I5 J cc ss) _
      refine ev_n (fr' := (41, [some (vr 0), some (vi (p : Int)), some (vi (k : Int)), some (vi z), some (vi ((j : Int) + 1))], [])) (S' := MS I5 J cc ss) 1 rfl ?_
      exact lp_in X _ _ cc ss I0 p k hS hP hI hws hwp hwi hp hk (j + 1) (z) (by omega) (by
        show _ = zeF (inF g p (g (2 * k + 1)) (g (2 * k + 2))) j + _
        rw [hz]; rw [if_neg g2]; omega) hO
    · show Ev X k_X8_indifferent (125, [some (vr 0), some (vi (p : Int)), some (vi (k : Int)), some (vi z), some (vi (j : Int))], []) (MS I5 J cc ss) _
      refine ev_inc (z := z + 1) rfl rfl (by omega) (by omega) (by omega) rfl ?_
      show Ev X k_X8_indifferent (128, [some (vr 0), some (vi (p : Int)), some (vi (k : Int)), some (vi (z + 1)), some (vi (j : Int))], []) (MS I5 J cc ss) _
      refine ev_inc (z := (j : Int) + 1) rfl rfl (by omega) (by omega) (by omega) rfl ?_
      show Ev X k_X8_indifferent (131, [some (vr 0), some (vi (p : Int)), some (vi (k : Int)), some (vi (z + 1)), some (vi ((j : Int) + 1))], []) (MS I5 J cc ss) _
      refine ev_n (fr' := (41, [some (vr 0), some (vi (p : Int)), some (vi (k : Int)), some (vi (z + 1)), some (vi ((j : Int) + 1))], [])) (S' := MS I5 J cc ss) 1 rfl ?_
      exact lp_in X _ _ cc ss I0 p k hS hP hI hws hwp hwi hp hk (j + 1) (z + 1) (by omega) (by
        show _ = zeF (inF g p (g (2 * k + 1)) (g (2 * k + 2))) j + _
        rw [hz]; rw [if_pos (Decidable.of_not_not g2)]) hO
termination_by 9 - j
decreasing_by all_goals omega
theorem pb_indifferent_x (X : AX) (I J : Nat → Nat → Int) (cc ss : Nat) {g : F1} (y z : Int) (hS : SRep I 1 g) (hP : PRep I J 5 g) (hI : IRep I J 9 g) (hws : WS g) (hwp : WP g) (hwi : WI g) (h : ¬ (0 ≤ y ∧ y < g 11)) : Ev X k_X8_indifferent (0, [some (vr 0), some (vi y), some (vi z), none, none], []) (MS I J cc ss) (fun o T => o = .inr 2 ∧ T = MS I J (cc + 1) (ss + 6)) := by
  refine ev_n (fr' := (8, [some (vr 0), some (vi y), some (vi z), none, none], [vi y, vr 5])) (S' := MS I J cc ss) 4 rfl ?_
  refine ev_cv rfl rfl rfl ⟨Nat.le_of_ble_eq_true rfl, Nat.le_of_ble_eq_true rfl⟩ (sp_hasRow_5 X _ _ _ _ y hP) ?_
  show Ev X k_X8_indifferent (11, [some (vr 0), some (vi y), some (vi z), none, none], [vi (if 0 ≤ y ∧ y < g 11 then 1 else 0)]) (MS I J cc ss) _
  refine ev_beq _ rfl (by decide) (fun (g1 : ¬ (0 ≤ y ∧ y < g 11)) => ?_) (fun (g1 : 0 ≤ y ∧ y < g 11) => False.elim ((h) g1))
  show Ev X k_X8_indifferent (32, [some (vr 0), some (vi y), some (vi z), none, none], []) (MS I J cc ss) _
  refine ev_n (fr' := (33, [some (vr 0), some (vi y), some (vi z), none, none], [vi 0])) (S' := MS I J cc ss) 1 rfl ?_
  refine ev_cx rfl rfl rfl ⟨Nat.le_of_ble_eq_true rfl, Nat.le_of_ble_eq_true rfl⟩ (sp_reqI0 X _ _ _ _) rfl ?_
  exact ⟨rfl, rfl⟩
theorem pb_indifferent_y (X : AX) (I J : Nat → Nat → Int) (cc ss : Nat) {g : F1} (p : Nat) (z : Int) (hS : SRep I 1 g) (hP : PRep I J 5 g) (hI : IRep I J 9 g) (hws : WS g) (hwp : WP g) (hwi : WI g) (hp : (p : Int) < g 11) (h : ¬ (0 ≤ z ∧ z < g 0)) : Ev X k_X8_indifferent (0, [some (vr 0), some (vi (p : Int)), some (vi z), none, none], []) (MS I J cc ss) (fun o T => o = .inr 2 ∧ T = MS I J (cc + 1) (ss + 6)) := by
  refine ev_n (fr' := (8, [some (vr 0), some (vi (p : Int)), some (vi z), none, none], [vi (p : Int), vr 5])) (S' := MS I J cc ss) 4 rfl ?_
  refine ev_cv rfl rfl rfl ⟨Nat.le_of_ble_eq_true rfl, Nat.le_of_ble_eq_true rfl⟩ (sp_hasRow_5 X _ _ _ _ (p : Int) hP) ?_
  show Ev X k_X8_indifferent (11, [some (vr 0), some (vi (p : Int)), some (vi z), none, none], [vi (if 0 ≤ (p : Int) ∧ (p : Int) < g 11 then 1 else 0)]) (MS I J cc ss) _
  refine ev_beq _ rfl (by decide) (fun (g1 : ¬ (0 ≤ (p : Int) ∧ (p : Int) < g 11)) => False.elim (g1 (by omega))) (fun (g1 : 0 ≤ (p : Int) ∧ (p : Int) < g 11) => ?_)
  show Ev X k_X8_indifferent (14, [some (vr 0), some (vi (p : Int)), some (vi z), none, none], []) (MS I J cc ss) _
  refine ev_n (fr' := (22, [some (vr 0), some (vi (p : Int)), some (vi z), none, none], [vi z, vr 2])) (S' := MS I J cc ss) 4 rfl ?_
  refine ev_cv rfl rfl rfl ⟨Nat.le_of_ble_eq_true rfl, Nat.le_of_ble_eq_true rfl⟩ (sp_has_2 X _ _ _ _ z hS) ?_
  show Ev X k_X8_indifferent (25, [some (vr 0), some (vi (p : Int)), some (vi z), none, none], [vi (if 0 ≤ z ∧ z < g 0 then 1 else 0)]) (MS I J cc ss) _
  refine ev_beq _ rfl (by decide) (fun (g2 : ¬ (0 ≤ z ∧ z < g 0)) => ?_) (fun (g2 : 0 ≤ z ∧ z < g 0) => False.elim ((h) g2))
  show Ev X k_X8_indifferent (32, [some (vr 0), some (vi (p : Int)), some (vi z), none, none], []) (MS I J cc ss) _
  refine ev_n (fr' := (33, [some (vr 0), some (vi (p : Int)), some (vi z), none, none], [vi 0])) (S' := MS I J cc ss) 1 rfl ?_
  refine ev_cx rfl rfl rfl ⟨Nat.le_of_ble_eq_true rfl, Nat.le_of_ble_eq_true rfl⟩ (sp_reqI0 X _ _ _ _) rfl ?_
  exact ⟨rfl, rfl⟩
theorem pb_indifferent (X : AX) (I J : Nat → Nat → Int) (cc ss : Nat) {g : F1} (p k : Nat) (hS : SRep I 1 g) (hP : PRep I J 5 g) (hI : IRep I J 9 g) (hws : WS g) (hwp : WP g) (hwi : WI g) (hp : (p : Int) < g 11) (hk : (k : Int) < g 0) : Ev X k_X8_indifferent (0, [some (vr 0), some (vi (p : Int)), some (vi (k : Int)), none, none], []) (MS I J cc ss) (PV cc ss (some (vi (zeF (inF g p (g (2 * k + 1)) (g (2 * k + 2))) (g 308).toNat))) (fun I' J' => J' = J ∧ scrC I I')) := by
  refine ev_n (fr' := (8, [some (vr 0), some (vi (p : Int)), some (vi (k : Int)), none, none], [vi (p : Int), vr 5])) (S' := MS I J cc ss) 4 rfl ?_
  refine ev_cv rfl rfl rfl ⟨Nat.le_of_ble_eq_true rfl, Nat.le_of_ble_eq_true rfl⟩ (sp_hasRow_5 X _ _ _ _ (p : Int) hP) ?_
  show Ev X k_X8_indifferent (11, [some (vr 0), some (vi (p : Int)), some (vi (k : Int)), none, none], [vi (if 0 ≤ (p : Int) ∧ (p : Int) < g 11 then 1 else 0)]) (MS I J cc ss) _
  refine ev_beq _ rfl (by decide) (fun (g1 : ¬ (0 ≤ (p : Int) ∧ (p : Int) < g 11)) => False.elim (g1 (by omega))) (fun (g1 : 0 ≤ (p : Int) ∧ (p : Int) < g 11) => ?_)
  show Ev X k_X8_indifferent (14, [some (vr 0), some (vi (p : Int)), some (vi (k : Int)), none, none], []) (MS I J cc ss) _
  refine ev_n (fr' := (22, [some (vr 0), some (vi (p : Int)), some (vi (k : Int)), none, none], [vi (k : Int), vr 2])) (S' := MS I J cc ss) 4 rfl ?_
  refine ev_cv rfl rfl rfl ⟨Nat.le_of_ble_eq_true rfl, Nat.le_of_ble_eq_true rfl⟩ (sp_has_2 X _ _ _ _ (k : Int) hS) ?_
  show Ev X k_X8_indifferent (25, [some (vr 0), some (vi (p : Int)), some (vi (k : Int)), none, none], [vi (if 0 ≤ (k : Int) ∧ (k : Int) < g 0 then 1 else 0)]) (MS I J cc ss) _
  refine ev_beq _ rfl (by decide) (fun (g2 : ¬ (0 ≤ (k : Int) ∧ (k : Int) < g 0)) => False.elim (g2 (by omega))) (fun (g2 : 0 ≤ (k : Int) ∧ (k : Int) < g 0) => ?_)
  show Ev X k_X8_indifferent (28, [some (vr 0), some (vi (p : Int)), some (vi (k : Int)), none, none], []) (MS I J cc ss) _
  refine ev_n (fr' := (33, [some (vr 0), some (vi (p : Int)), some (vi (k : Int)), none, none], [vi 1])) (S' := MS I J cc ss) 2 rfl ?_
  refine ev_cv rfl rfl rfl ⟨Nat.le_of_ble_eq_true rfl, Nat.le_of_ble_eq_true rfl⟩ (sp_reqI1 X _) ?_
  show Ev X k_X8_indifferent (36, [some (vr 0), some (vi (p : Int)), some (vi (k : Int)), none, none], []) (MS I J cc ss) _
  refine ev_n (fr' := (41, [some (vr 0), some (vi (p : Int)), some (vi (k : Int)), some (vi 0), some (vi 0)], [])) (S' := MS I J cc ss) 4 rfl ?_
  exact lp_in X _ _ cc ss I p k hS hP hI hws hwp hwi hp hk 0 0 (by have := hwi.1; omega) rfl (scrC.refl _)
section XE
variable {X : AX} {k pc j : Nat} {L : ALs} {r : List AV} {S : AS} {Q : (Option AV ⊕ Nat) → AS → Prop} {i z : Int} {ax : Nat × Nat × Nat}
theorem ev_xeN (hcd : cdAt k pc = some (.iaload, 1, ax)) (hl : (lay S)[xExt]? = none) (hi : i = (j : Int)) (hj : j < 5) (hv : exs.getD j 0 = z) (he : Ev X k (pc + 1, L, vi z :: r) S Q) : Ev X k (pc, L, vi i :: vr xExt :: r) S Q := by
  subst hi; subst hv
  refine ev_p hcd ?_ he
  have hne : ¬ (1 = 1 ∧ xExt = xScr ∧ 0 ≤ (j : Int) ∧ (j : Int) < X.1) := fun h => absurd h.2.1 (by decide)
  simp only [stp, rdA, hl]
  rw [if_neg (fun h => absurd h.2.1 (by decide)), if_pos ⟨trivial, trivial, by omega, by omega⟩]; rfl
end XE
theorem exs_rng : ∀ j : Nat, -2 ≤ exs.getD j 0 ∧ exs.getD j 0 ≤ 2
  | 0 | 1 | 2 | 3 | 4 => by decide
  | _ + 5 => by show -2 ≤ (0 : Int) ∧ (0 : Int) ≤ 2; omega
def beF (h : Int → Int) (w d0 : Int) : Nat → Int × Int
  | 0 => (0, d0)
  | n + 1 => if absF (h (exs.getD n 0) - w) < (beF h w d0 n).2 then (exs.getD n 0, absF (h (exs.getD n 0) - w)) else beF h w d0 n
theorem lp_be (X : AX) (I J : Nat → Nat → Int) (cc ss : Nat) {g : F1} (I0 : F2) (k l : Nat) (hS : SRep I 1 g) (hP : PRep I J 5 g) (hI : IRep I J 9 g) (hws : WS g) (hwp : WP g) (hwi : WI g) (hk : (k : Int) < g 0) (hl : g 0 = (l : Int) + 1) (j : Nat) (b d : Int) (v10 v11 : Option AV) (hj : j ≤ 5) (hb : b = (beF (mwF g (g (2 * k + 1))) (mwF g (g (2 * l + 1)) (g (2 * l + 2))) 1001 j).1) (hd : d = (beF (mwF g (g (2 * k + 1))) (mwF g (g (2 * l + 1)) (g (2 * l + 2))) 1001 j).2) (hO : scrC I0 I) : Ev X k_X8_bestExtra (92, [some (vr 0), some (vi (k : Int)), some (vi (l : Int)), some (vi (mwF g (g (2 * l + 1)) (g (2 * l + 2)))), some (vi (g (2 * k + 1))), some (vi b), some (vi d), some (vr 1000001), some (vi 5), some (vi (j : Int)), v10, v11], []) (MS I J cc ss) (PV cc ss (some (vi (beF (mwF g (g (2 * k + 1))) (mwF g (g (2 * l + 1)) (g (2 * l + 2))) 1001 5).1)) (fun I' J' => J' = J ∧ scrC I0 I')) := by
  have hws1 := hws.2.1
  have hr := hws.2.2.1 k hk
  have hr2 := hws.2.2.1 l (by omega)
  have hml := mwF_rng (g := g) (P := g (2 * l + 1)) (e := g (2 * l + 2)) hwi (by omega)
  have hx := exs_rng j
  have hmj := mwF_rng (g := g) (P := g (2 * k + 1)) (e := exs.getD j 0) hwi (by omega)
  refine ev_n (fr' := (96, [some (vr 0), some (vi (k : Int)), some (vi (l : Int)), some (vi (mwF g (g (2 * l + 1)) (g (2 * l + 2)))), some (vi (g (2 * k + 1))), some (vi b), some (vi d), some (vr 1000001), some (vi 5), some (vi (j : Int)), v10, v11], [vi 5, vi (j : Int)])) (S' := MS I J cc ss) 2 rfl ?_
  refine ev_ic (c := .ge) (off := 46) rfl (by decide) (fun (g1 : 5 ≤ (j : Int)) => ?_) (fun (g1 : ¬ (5 ≤ (j : Int))) => ?_)
  · show Ev X k_X8_bestExtra (142, [some (vr 0), some (vi (k : Int)), some (vi (l : Int)), some (vi (mwF g (g (2 * l + 1)) (g (2 * l + 2)))), some (vi (g (2 * k + 1))), some (vi b), some (vi d), some (vr 1000001), some (vi 5), some (vi (j : Int)), v10, v11], []) (MS I J cc ss) _
    refine ev_n (fr' := (144, [some (vr 0), some (vi (k : Int)), some (vi (l : Int)), some (vi (mwF g (g (2 * l + 1)) (g (2 * l + 2)))), some (vi (g (2 * k + 1))), some (vi b), some (vi d), some (vr 1000001), some (vi 5), some (vi (j : Int)), v10, v11], [vi b])) (S' := MS I J cc ss) 1 rfl ?_
    refine ev_r rfl rfl rfl ?_
    exact ⟨_, _, rfl, congrArg (fun z => Sum.inl (some (vi z))) (by rw [hb, show j = 5 by omega]), rfl, hO⟩
  · show Ev X k_X8_bestExtra (99, [some (vr 0), some (vi (k : Int)), some (vi (l : Int)), some (vi (mwF g (g (2 * l + 1)) (g (2 * l + 2)))), some (vi (g (2 * k + 1))), some (vi b), some (vi d), some (vr 1000001), some (vi 5), some (vi (j : Int)), v10, v11], []) (MS I J cc ss) _
    refine ev_n (fr' := (103, [some (vr 0), some (vi (k : Int)), some (vi (l : Int)), some (vi (mwF g (g (2 * l + 1)) (g (2 * l + 2)))), some (vi (g (2 * k + 1))), some (vi b), some (vi d), some (vr 1000001), some (vi 5), some (vi (j : Int)), v10, v11], [vi (j : Int), vr 1000001])) (S' := MS I J cc ss) 2 rfl ?_
    refine ev_xeN (j := j) rfl rfl rfl (by omega) rfl ?_
    show Ev X k_X8_bestExtra (104, [some (vr 0), some (vi (k : Int)), some (vi (l : Int)), some (vi (mwF g (g (2 * l + 1)) (g (2 * l + 2)))), some (vi (g (2 * k + 1))), some (vi b), some (vi d), some (vr 1000001), some (vi 5), some (vi (j : Int)), v10, v11], [vi (exs.getD j 0)]) (MS I J cc ss) _
    refine ev_n (fr' := (111, [some (vr 0), some (vi (k : Int)), some (vi (l : Int)), some (vi (mwF g (g (2 * l + 1)) (g (2 * l + 2)))), some (vi (g (2 * k + 1))), some (vi b), some (vi d), some (vr 1000001), some (vi 5), some (vi (j : Int)), some (vi (exs.getD j 0)), v11], [vi (exs.getD j 0), vi (g (2 * k + 1)), vr 0])) (S' := MS I J cc ss) 4 rfl ?_
    refine ev_cz rfl rfl rfl ⟨Nat.le_of_ble_eq_true rfl, Nat.le_of_ble_eq_true rfl⟩ (sp_meanWeight X _ _ _ _ (g (2 * k + 1)) (exs.getD j 0) hP hI hwp hwi (by omega) (by omega)) (fun zI1 I1 J q2 => ?_)
    obtain ⟨rfl, rI1, hzI1⟩ := q2
    show Ev X k_X8_bestExtra (114, [some (vr 0), some (vi (k : Int)), some (vi (l : Int)), some (vi (mwF g (g (2 * l + 1)) (g (2 * l + 2)))), some (vi (g (2 * k + 1))), some (vi b), some (vi d), some (vr 1000001), some (vi 5), some (vi (j : Int)), some (vi (exs.getD j 0)), v11], [vi zI1]) (MS I1 J cc ss) _
    rw [hzI1]
    have hO := hO.trans (rI1.scr (by decide))
    have hS := onlyD.S rI1 (by decide) (by decide) hS
    have hP := onlyD.P rI1 (by decide) (by decide) hP
    have hI := onlyD.I rI1 (by decide) (by decide) hI
    have := mwF_rng (g := g) (P := (g (2 * k + 1))) (e := (exs.getD j 0)) hwi (by omega)
    refine ev_n (fr' := (115, [some (vr 0), some (vi (k : Int)), some (vi (l : Int)), some (vi (mwF g (g (2 * l + 1)) (g (2 * l + 2)))), some (vi (g (2 * k + 1))), some (vi b), some (vi d), some (vr 1000001), some (vi 5), some (vi (j : Int)), some (vi (exs.getD j 0)), v11], [vi (mwF g (g (2 * l + 1)) (g (2 * l + 2))), vi (mwF g (g (2 * k + 1)) (exs.getD j 0))])) (S' := MS I1 J cc ss) 1 rfl ?_
    refine ev_sub (z := (mwF g (g (2 * k + 1)) (exs.getD j 0)) - (mwF g (g (2 * l + 1)) (g (2 * l + 2)))) rfl (by omega) (by omega) (by omega) ?_
    show Ev X k_X8_bestExtra (116, [some (vr 0), some (vi (k : Int)), some (vi (l : Int)), some (vi (mwF g (g (2 * l + 1)) (g (2 * l + 2)))), some (vi (g (2 * k + 1))), some (vi b), some (vi d), some (vr 1000001), some (vi 5), some (vi (j : Int)), some (vi (exs.getD j 0)), v11], [vi ((mwF g (g (2 * k + 1)) (exs.getD j 0)) - (mwF g (g (2 * l + 1)) (g (2 * l + 2))))]) (MS I1 J cc ss) _
    refine ev_cv rfl rfl rfl ⟨Nat.le_of_ble_eq_true rfl, Nat.le_of_ble_eq_true rfl⟩ (sp_abs X _ ((mwF g (g (2 * k + 1)) (exs.getD j 0)) - (mwF g (g (2 * l + 1)) (g (2 * l + 2)))) (by omega)) ?_
    show Ev X k_X8_bestExtra (119, [some (vr 0), some (vi (k : Int)), some (vi (l : Int)), some (vi (mwF g (g (2 * l + 1)) (g (2 * l + 2)))), some (vi (g (2 * k + 1))), some (vi b), some (vi d), some (vr 1000001), some (vi 5), some (vi (j : Int)), some (vi (exs.getD j 0)), v11], [vi (absF ((mwF g (g (2 * k + 1)) (exs.getD j 0)) - (mwF g (g (2 * l + 1)) (g (2 * l + 2)))))]) (MS I1 J cc ss) _
    refine ev_n (fr' := (125, [some (vr 0), some (vi (k : Int)), some (vi (l : Int)), some (vi (mwF g (g (2 * l + 1)) (g (2 * l + 2)))), some (vi (g (2 * k + 1))), some (vi b), some (vi d), some (vr 1000001), some (vi 5), some (vi (j : Int)), some (vi (exs.getD j 0)), some (vi (absF ((mwF g (g (2 * k + 1)) (exs.getD j 0)) - (mwF g (g (2 * l + 1)) (g (2 * l + 2))))))], [vi d, vi (absF ((mwF g (g (2 * k + 1)) (exs.getD j 0)) - (mwF g (g (2 * l + 1)) (g (2 * l + 2)))))])) (S' := MS I1 J cc ss) 3 rfl ?_
    refine ev_ic (c := .ge) (off := 11) rfl (by decide) (fun (g2 : d ≤ (absF ((mwF g (g (2 * k + 1)) (exs.getD j 0)) - (mwF g (g (2 * l + 1)) (g (2 * l + 2)))))) => ?_) (fun (g2 : ¬ (d ≤ (absF ((mwF g (g (2 * k + 1)) (exs.getD j 0)) - (mwF g (g (2 * l + 1)) (g (2 * l + 2))))))) => ?_)
    · show Ev X k_X8_bestExtra (136, [some (vr 0), some (vi (k : Int)), some (vi (l : Int)), some (vi (mwF g (g (2 * l + 1)) (g (2 * l + 2)))), some (vi (g (2 * k + 1))), some (vi b), some (vi d), some (vr 1000001), some (vi 5), some (vi (j : Int)), some (vi (exs.getD j 0)), some (vi (absF ((mwF g (g (2 * k + 1)) (exs.getD j 0)) - (mwF g (g (2 * l + 1)) (g (2 * l + 2))))))], []) (MS I1 J cc ss) _
      refine ev_inc (z := (j : Int) + 1) rfl rfl (by omega) (by omega) (by omega) rfl ?_
      show Ev X k_X8_bestExtra (139, [some (vr 0), some (vi (k : Int)), some (vi (l : Int)), some (vi (mwF g (g (2 * l + 1)) (g (2 * l + 2)))), some (vi (g (2 * k + 1))), some (vi b), some (vi d), some (vr 1000001), some (vi 5), some (vi ((j : Int) + 1)), some (vi (exs.getD j 0)), some (vi (absF ((mwF g (g (2 * k + 1)) (exs.getD j 0)) - (mwF g (g (2 * l + 1)) (g (2 * l + 2))))))], []) (MS I1 J cc ss) _
      refine ev_n (fr' := (92, [some (vr 0), some (vi (k : Int)), some (vi (l : Int)), some (vi (mwF g (g (2 * l + 1)) (g (2 * l + 2)))), some (vi (g (2 * k + 1))), some (vi b), some (vi d), some (vr 1000001), some (vi 5), some (vi ((j : Int) + 1)), some (vi (exs.getD j 0)), some (vi (absF ((mwF g (g (2 * k + 1)) (exs.getD j 0)) - (mwF g (g (2 * l + 1)) (g (2 * l + 2))))))], [])) (S' := MS I1 J cc ss) 1 rfl ?_
      have hst : beF (mwF g (g (2 * k + 1))) (mwF g (g (2 * l + 1)) (g (2 * l + 2))) 1001 (j + 1) = beF (mwF g (g (2 * k + 1))) (mwF g (g (2 * l + 1)) (g (2 * l + 2))) 1001 j := if_neg (show ¬ absF ((mwF g (g (2 * k + 1))) (exs.getD j 0) - (mwF g (g (2 * l + 1)) (g (2 * l + 2)))) < (beF (mwF g (g (2 * k + 1))) (mwF g (g (2 * l + 1)) (g (2 * l + 2))) 1001 j).2 by rw [← hd]; omega)
      exact lp_be X _ _ cc ss I0 k l hS hP hI hws hwp hwi hk hl (j + 1) _ _ _ _ (by omega) (by rw [hst]; exact hb) (by rw [hst]; exact hd) hO
    · show Ev X k_X8_bestExtra (128, [some (vr 0), some (vi (k : Int)), some (vi (l : Int)), some (vi (mwF g (g (2 * l + 1)) (g (2 * l + 2)))), some (vi (g (2 * k + 1))), some (vi b), some (vi d), some (vr 1000001), some (vi 5), some (vi (j : Int)), some (vi (exs.getD j 0)), some (vi (absF ((mwF g (g (2 * k + 1)) (exs.getD j 0)) - (mwF g (g (2 * l + 1)) (g (2 * l + 2))))))], []) (MS I1 J cc ss) _
      refine ev_n (fr' := (136, [some (vr 0), some (vi (k : Int)), some (vi (l : Int)), some (vi (mwF g (g (2 * l + 1)) (g (2 * l + 2)))), some (vi (g (2 * k + 1))), some (vi (exs.getD j 0)), some (vi (absF ((mwF g (g (2 * k + 1)) (exs.getD j 0)) - (mwF g (g (2 * l + 1)) (g (2 * l + 2)))))), some (vr 1000001), some (vi 5), some (vi (j : Int)), some (vi (exs.getD j 0)), some (vi (absF ((mwF g (g (2 * k + 1)) (exs.getD j 0)) - (mwF g (g (2 * l + 1)) (g (2 * l + 2))))))], [])) (S' := MS I1 J cc ss) 4 rfl ?_
      refine ev_inc (z := (j : Int) + 1) rfl rfl (by omega) (by omega) (by omega) rfl ?_
      show Ev X k_X8_bestExtra (139, [some (vr 0), some (vi (k : Int)), some (vi (l : Int)), some (vi (mwF g (g (2 * l + 1)) (g (2 * l + 2)))), some (vi (g (2 * k + 1))), some (vi (exs.getD j 0)), some (vi (absF ((mwF g (g (2 * k + 1)) (exs.getD j 0)) - (mwF g (g (2 * l + 1)) (g (2 * l + 2)))))), some (vr 1000001), some (vi 5), some (vi ((j : Int) + 1)), some (vi (exs.getD j 0)), some (vi (absF ((mwF g (g (2 * k + 1)) (exs.getD j 0)) - (mwF g (g (2 * l + 1)) (g (2 * l + 2))))))], []) (MS I1 J cc ss) _
      refine ev_n (fr' := (92, [some (vr 0), some (vi (k : Int)), some (vi (l : Int)), some (vi (mwF g (g (2 * l + 1)) (g (2 * l + 2)))), some (vi (g (2 * k + 1))), some (vi (exs.getD j 0)), some (vi (absF ((mwF g (g (2 * k + 1)) (exs.getD j 0)) - (mwF g (g (2 * l + 1)) (g (2 * l + 2)))))), some (vr 1000001), some (vi 5), some (vi ((j : Int) + 1)), some (vi (exs.getD j 0)), some (vi (absF ((mwF g (g (2 * k + 1)) (exs.getD j 0)) - (mwF g (g (2 * l + 1)) (g (2 * l + 2))))))], [])) (S' := MS I1 J cc ss) 1 rfl ?_
      have hst : beF (mwF g (g (2 * k + 1))) (mwF g (g (2 * l + 1)) (g (2 * l + 2))) 1001 (j + 1) = (exs.getD j 0, absF ((mwF g (g (2 * k + 1))) (exs.getD j 0) - (mwF g (g (2 * l + 1)) (g (2 * l + 2))))) := if_pos (show absF ((mwF g (g (2 * k + 1))) (exs.getD j 0) - (mwF g (g (2 * l + 1)) (g (2 * l + 2)))) < (beF (mwF g (g (2 * k + 1))) (mwF g (g (2 * l + 1)) (g (2 * l + 2))) 1001 j).2 by rw [← hd]; omega)
      exact lp_be X _ _ cc ss I0 k l hS hP hI hws hwp hwi hk hl (j + 1) _ _ _ _ (by omega) (by rw [hst]) (by rw [hst]) hO
termination_by 5 - j
decreasing_by all_goals omega
theorem pb_best_x (X : AX) (I J : Nat → Nat → Int) (cc ss : Nat) {g : F1} (y : Int) (hS : SRep I 1 g) (hP : PRep I J 5 g) (hI : IRep I J 9 g) (hws : WS g) (hwp : WP g) (hwi : WI g) (h : ¬ (0 ≤ y ∧ y < g 0)) : Ev X k_X8_bestExtra (0, [some (vr 0), some (vi y), none, none, none, none, none, none, none, none, none, none], []) (MS I J cc ss) (fun o T => o = .inr 2 ∧ T = MS I J (cc + 1) (ss + 6)) := by
  refine ev_n (fr' := (8, [some (vr 0), some (vi y), none, none, none, none, none, none, none, none, none, none], [vi y, vr 2])) (S' := MS I J cc ss) 4 rfl ?_
  refine ev_cv rfl rfl rfl ⟨Nat.le_of_ble_eq_true rfl, Nat.le_of_ble_eq_true rfl⟩ (sp_has_2 X _ _ _ _ y hS) ?_
  show Ev X k_X8_bestExtra (11, [some (vr 0), some (vi y), none, none, none, none, none, none, none, none, none, none], [vi (if 0 ≤ y ∧ y < g 0 then 1 else 0)]) (MS I J cc ss) _
  refine ev_s0 _ (h) ?_
  show Ev X k_X8_bestExtra (11, [some (vr 0), some (vi y), none, none, none, none, none, none, none, none, none, none], [vi 0]) (MS I J cc ss) _
  refine ev_cx rfl rfl rfl ⟨Nat.le_of_ble_eq_true rfl, Nat.le_of_ble_eq_true rfl⟩ (sp_reqI0 X _ _ _ _) rfl ?_
  exact ⟨rfl, rfl⟩
theorem pb_best_y (X : AX) (I J : Nat → Nat → Int) (cc ss : Nat) {g : F1} (k : Nat) (hS : SRep I 1 g) (hP : PRep I J 5 g) (hI : IRep I J 9 g) (hws : WS g) (hwp : WP g) (hwi : WI g) (hk : (k : Int) < g 0) (h : g 308 = 0) : Ev X k_X8_bestExtra (0, [some (vr 0), some (vi (k : Int)), none, none, none, none, none, none, none, none, none, none], []) (MS I J cc ss) (fun o T => o = .inr 3 ∧ T = MS I J (cc + 1) (ss + 6)) := by
  refine ev_n (fr' := (8, [some (vr 0), some (vi (k : Int)), none, none, none, none, none, none, none, none, none, none], [vi (k : Int), vr 2])) (S' := MS I J cc ss) 4 rfl ?_
  refine ev_cv rfl rfl rfl ⟨Nat.le_of_ble_eq_true rfl, Nat.le_of_ble_eq_true rfl⟩ (sp_has_2 X _ _ _ _ (k : Int) hS) ?_
  show Ev X k_X8_bestExtra (11, [some (vr 0), some (vi (k : Int)), none, none, none, none, none, none, none, none, none, none], [vi (if 0 ≤ (k : Int) ∧ (k : Int) < g 0 then 1 else 0)]) (MS I J cc ss) _
  refine ev_s1 _ (by omega) ?_
  show Ev X k_X8_bestExtra (11, [some (vr 0), some (vi (k : Int)), none, none, none, none, none, none, none, none, none, none], [vi 1]) (MS I J cc ss) _
  refine ev_cv rfl rfl rfl ⟨Nat.le_of_ble_eq_true rfl, Nat.le_of_ble_eq_true rfl⟩ (sp_reqI1 X _) ?_
  show Ev X k_X8_bestExtra (14, [some (vr 0), some (vi (k : Int)), none, none, none, none, none, none, none, none, none, none], []) (MS I J cc ss) _
  refine ev_n (fr' := (15, [some (vr 0), some (vi (k : Int)), none, none, none, none, none, none, none, none, none, none], [vr 0])) (S' := MS I J cc ss) 1 rfl ?_
  refine ev_cx rfl rfl rfl ⟨Nat.le_of_ble_eq_true rfl, Nat.le_of_ble_eq_true rfl⟩ (sp_reqIc0 X _ _ _ _ hI h) rfl ?_
  exact ⟨rfl, rfl⟩
theorem pb_best (X : AX) (I J : Nat → Nat → Int) (cc ss : Nat) {g : F1} (k l : Nat) (hS : SRep I 1 g) (hP : PRep I J 5 g) (hI : IRep I J 9 g) (hws : WS g) (hwp : WP g) (hwi : WI g) (hk : (k : Int) < g 0) (hl : g 0 = (l : Int) + 1) (hn0 : g 308 ≠ 0) : Ev X k_X8_bestExtra (0, [some (vr 0), some (vi (k : Int)), none, none, none, none, none, none, none, none, none, none], []) (MS I J cc ss) (PV cc ss (some (vi ((beF (mwF g (g (2 * k + 1))) (mwF g (g (2 * l + 1)) (g (2 * l + 2))) 1001 5).1))) (fun I' J' => J' = J ∧ scrC I I')) := by
  have hO := scrC.refl I
  have hws1 := hws.2.1
  have hr := hws.2.2.1 k hk
  have hr2 := hws.2.2.1 l (by omega)
  have hml := mwF_rng (g := g) (P := g (2 * l + 1)) (e := g (2 * l + 2)) hwi (by omega)
  refine ev_n (fr' := (8, [some (vr 0), some (vi (k : Int)), none, none, none, none, none, none, none, none, none, none], [vi (k : Int), vr 2])) (S' := MS I J cc ss) 4 rfl ?_
  refine ev_cv rfl rfl rfl ⟨Nat.le_of_ble_eq_true rfl, Nat.le_of_ble_eq_true rfl⟩ (sp_has_2 X _ _ _ _ (k : Int) hS) ?_
  show Ev X k_X8_bestExtra (11, [some (vr 0), some (vi (k : Int)), none, none, none, none, none, none, none, none, none, none], [vi (if 0 ≤ (k : Int) ∧ (k : Int) < g 0 then 1 else 0)]) (MS I J cc ss) _
  refine ev_s1 _ (by omega) ?_
  show Ev X k_X8_bestExtra (11, [some (vr 0), some (vi (k : Int)), none, none, none, none, none, none, none, none, none, none], [vi 1]) (MS I J cc ss) _
  refine ev_cv rfl rfl rfl ⟨Nat.le_of_ble_eq_true rfl, Nat.le_of_ble_eq_true rfl⟩ (sp_reqI1 X _) ?_
  show Ev X k_X8_bestExtra (14, [some (vr 0), some (vi (k : Int)), none, none, none, none, none, none, none, none, none, none], []) (MS I J cc ss) _
  refine ev_n (fr' := (15, [some (vr 0), some (vi (k : Int)), none, none, none, none, none, none, none, none, none, none], [vr 0])) (S' := MS I J cc ss) 1 rfl ?_
  refine ev_cv rfl rfl rfl ⟨Nat.le_of_ble_eq_true rfl, Nat.le_of_ble_eq_true rfl⟩ (sp_reqIc1 X _ _ _ _ hI hn0) ?_
  show Ev X k_X8_bestExtra (18, [some (vr 0), some (vi (k : Int)), none, none, none, none, none, none, none, none, none, none], []) (MS I J cc ss) _
  refine ev_n (fr' := (25, [some (vr 0), some (vi (k : Int)), none, none, none, none, none, none, none, none, none, none], [vr 2])) (S' := MS I J cc ss) 3 rfl ?_
  refine ev_cv rfl rfl rfl ⟨Nat.le_of_ble_eq_true rfl, Nat.le_of_ble_eq_true rfl⟩ (sp_sizeCount_2 X _ _ _ _  hS) ?_
  show Ev X k_X8_bestExtra (28, [some (vr 0), some (vi (k : Int)), none, none, none, none, none, none, none, none, none, none], [vi (g 0)]) (MS I J cc ss) _
  refine ev_n (fr' := (29, [some (vr 0), some (vi (k : Int)), none, none, none, none, none, none, none, none, none, none], [vi 1, vi (g 0)])) (S' := MS I J cc ss) 1 rfl ?_
  refine ev_sub (z := (g 0) - 1) rfl (by omega) (by omega) (by omega) ?_
  show Ev X k_X8_bestExtra (30, [some (vr 0), some (vi (k : Int)), none, none, none, none, none, none, none, none, none, none], [vi ((g 0) - 1)]) (MS I J cc ss) _
  refine ev_eqi (show (g 0) - 1 = (l : Int) from by omega) ?_
  show Ev X k_X8_bestExtra (30, [some (vr 0), some (vi (k : Int)), none, none, none, none, none, none, none, none, none, none], [vi (l : Int)]) (MS I J cc ss) _
  refine ev_n (fr' := (40, [some (vr 0), some (vi (k : Int)), some (vi (l : Int)), none, none, none, none, none, none, none, none, none], [vi (l : Int), vr 2, vr 0])) (S' := MS I J cc ss) 6 rfl ?_
  refine ev_cv rfl rfl rfl ⟨Nat.le_of_ble_eq_true rfl, Nat.le_of_ble_eq_true rfl⟩ (sp_pixelsOf_2 X _ _ _ _ l hS hws (by omega)) ?_
  show Ev X k_X8_bestExtra (43, [some (vr 0), some (vi (k : Int)), some (vi (l : Int)), none, none, none, none, none, none, none, none, none], [vi (g (2 * l + 1)), vr 0]) (MS I J cc ss) _
  refine ev_n (fr' := (51, [some (vr 0), some (vi (k : Int)), some (vi (l : Int)), none, none, none, none, none, none, none, none, none], [vi (l : Int), vr 2, vi (g (2 * l + 1)), vr 0])) (S' := MS I J cc ss) 4 rfl ?_
  refine ev_cv rfl rfl rfl ⟨Nat.le_of_ble_eq_true rfl, Nat.le_of_ble_eq_true rfl⟩ (sp_extraOf_2 X _ _ _ _ l hS hws (by omega)) ?_
  show Ev X k_X8_bestExtra (54, [some (vr 0), some (vi (k : Int)), some (vi (l : Int)), none, none, none, none, none, none, none, none, none], [vi (g (2 * l + 2)), vi (g (2 * l + 1)), vr 0]) (MS I J cc ss) _
  refine ev_cz rfl rfl rfl ⟨Nat.le_of_ble_eq_true rfl, Nat.le_of_ble_eq_true rfl⟩ (sp_meanWeight X _ _ _ _ (g (2 * l + 1)) (g (2 * l + 2)) hP hI hwp hwi (by omega) (by omega)) (fun zI1 I1 J q2 => ?_)
  obtain ⟨rfl, rI1, hzI1⟩ := q2
  show Ev X k_X8_bestExtra (57, [some (vr 0), some (vi (k : Int)), some (vi (l : Int)), none, none, none, none, none, none, none, none, none], [vi zI1]) (MS I1 J cc ss) _
  rw [hzI1]
  have hO := hO.trans (rI1.scr (by decide))
  have hS := onlyD.S rI1 (by decide) (by decide) hS
  have hP := onlyD.P rI1 (by decide) (by decide) hP
  have hI := onlyD.I rI1 (by decide) (by decide) hI
  have := mwF_rng (g := g) (P := (g (2 * l + 1))) (e := (g (2 * l + 2))) hwi (by omega)
  refine ev_n (fr' := (66, [some (vr 0), some (vi (k : Int)), some (vi (l : Int)), some (vi (mwF g (g (2 * l + 1)) (g (2 * l + 2)))), none, none, none, none, none, none, none, none], [vi (k : Int), vr 2])) (S' := MS I1 J cc ss) 5 rfl ?_
  refine ev_cv rfl rfl rfl ⟨Nat.le_of_ble_eq_true rfl, Nat.le_of_ble_eq_true rfl⟩ (sp_pixelsOf_2 X _ _ _ _ k hS hws (by omega)) ?_
  show Ev X k_X8_bestExtra (69, [some (vr 0), some (vi (k : Int)), some (vi (l : Int)), some (vi (mwF g (g (2 * l + 1)) (g (2 * l + 2)))), none, none, none, none, none, none, none, none], [vi (g (2 * k + 1))]) (MS I1 J cc ss) _
  refine ev_n (fr' := (92, [some (vr 0), some (vi (k : Int)), some (vi (l : Int)), some (vi (mwF g (g (2 * l + 1)) (g (2 * l + 2)))), some (vi (g (2 * k + 1))), some (vi 0), some (vi 1001), some (vr 1000001), some (vi 5), some (vi 0), none, none], [])) (S' := MS I1 J cc ss) 12 rfl ?_
  exact lp_be X _ _ cc ss I k l hS hP hI hws hwp hwi hk hl 0 _ _ _ _ (by omega) rfl rfl hO
