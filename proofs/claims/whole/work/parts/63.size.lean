/-! ICONS AT SIZES, class (printed by gen/g63.py) -/
def scrC (I I' : F2) : Prop := ∀ a, a < 126 ∨ a = 130 ∨ a = 131 ∨ 135 ≤ a → I' a = I a
theorem scrC.refl (I : F2) : scrC I I := fun _ _ => rfl
theorem scrC.trans {I I' I2 : F2} (h : scrC I I') (h2 : scrC I' I2) : scrC I I2 := fun a h3 => (h2 a h3).trans (h a h3)
theorem onlyD.scr {I I' : F2} {d : Nat} (h : onlyD d I I') (hd : d = 126 ∨ d = 128) : scrC I I' := fun a h3 => h a (by omega) (by omega)
theorem scrT.scr {I I' : F2} (h : scrT I I') : scrC I I' := fun a h3 => h a (by omega) (by omega) (by omega)
theorem scrC.S {I I' : F2} {b : Nat} {g : F1} (h : scrC I I') (hb : b ≤ 100) (hS : SRep I b g) : SRep I' b g := by
  unfold SRep; rw [h (b + 1) (by omega), h (b + 2) (by omega), h (b + 3) (by omega)]; exact hS
theorem scrC.P {I I' J : F2} {b : Nat} {g : F1} (h : scrC I I') (hb : b ≤ 100) (hS : PRep I J b g) : PRep I' J b g := by
  unfold PRep; rw [h b (by omega), h (b + 2) (by omega), h (b + 3) (by omega)]; exact hS
theorem scrC.I {I I' J : F2} {b : Nat} {g : F1} (h : scrC I I') (hb : b ≤ 100) (hS : IRep I J b g) : IRep I' J b g := by
  unfold IRep; rw [h b (by omega), h (b + 2) (by omega), h (b + 3) (by omega)]; exact hS
def scrM (I I' : F2) : Prop := (∀ a, a ≠ 135 → a ≠ 140 → a ≠ 141 → a ≠ 142 → a ≠ 143 → I' a = I a) ∧ ∀ f, f ≠ 17 → f ≠ 20 → I' 135 f = I 135 f
theorem scrM.refl (I : F2) : scrM I I := ⟨fun _ _ _ _ _ _ => rfl, fun _ _ _ => rfl⟩
theorem scrM.trans {I I' I2 : F2} (h : scrM I I') (h2 : scrM I' I2) : scrM I I2 := ⟨fun a h3 h4 h5 h6 h7 => (h2.1 a h3 h4 h5 h6 h7).trans (h.1 a h3 h4 h5 h6 h7), fun f h3 h4 => (h2.2 f h3 h4).trans (h.2 f h3 h4)⟩
theorem onlyW.scr {I I' : F2} (h : onlyW I I') : scrM I I' := ⟨fun a h3 h4 _ _ _ => h.1 a h4 h3, fun f h3 _ => h.2 f h3⟩
theorem onlyG.scr {I I' : F2} (h : onlyG I I') : scrM I I' := ⟨fun a h3 _ _ h6 h7 => h.1 a h6 h7 h3, fun f _ h4 => h.2 f h4⟩
theorem onlyO.scr {I I' : F2} (h : onlyO I I') : scrM I I' := ⟨fun a _ _ h5 _ _ => h a h5, fun f _ _ => congrFun (h 135 (by decide)) f⟩
theorem sp_drawAt_126 (X : AX) (I J : Nat → Nat → Int) (cc ss : Nat) {g : F1} (i k : Nat) (hS : SRep I 1 g) (hP : PRep I J 5 g) (hI : IRep I J 9 g) (hwp : WP g) (hwi : WI g) (hws : WS g) (hi : (i : Int) < g 308) (hk : (k : Int) < g 0) : Ev X k_X8_drawAt (0, [some (vr 0), some (vr 126), some (vi (i : Int)), some (vi (k : Int))], []) (MS I J cc ss) (PV cc ss none (fun I' J' => J' = J ∧ onlyD 126 I I' ∧ DR I' 126 (g (2 * k + 1)) (g (2 * k + 2)) (icF g i (g (2 * k + 1)) (g (2 * k + 2))))) := by
  have hO := onlyD.refl 126 I
  have hr := hws.2.2.1 k hk
  refine ev_n (fr' := (9, [some (vr 0), some (vr 126), some (vi (i : Int)), some (vi (k : Int))], [vi (k : Int), vr 2, vr 126])) (S' := MS I J cc ss) 5 rfl ?_
  refine ev_cv rfl rfl rfl ⟨Nat.le_of_ble_eq_true rfl, Nat.le_of_ble_eq_true rfl⟩ (sp_pixelsOf_2 X _ _ _ _ k hS hws (by omega)) ?_
  show Ev X k_X8_drawAt (12, [some (vr 0), some (vr 126), some (vi (i : Int)), some (vi (k : Int))], [vi (g (2 * k + 1)), vr 126]) (MS I J cc ss) _
  refine ev_n (fr' := (20, [some (vr 0), some (vr 126), some (vi (i : Int)), some (vi (k : Int))], [vi (k : Int), vr 2, vi (g (2 * k + 1)), vr 126])) (S' := MS I J cc ss) 4 rfl ?_
  refine ev_cv rfl rfl rfl ⟨Nat.le_of_ble_eq_true rfl, Nat.le_of_ble_eq_true rfl⟩ (sp_extraOf_2 X _ _ _ _ k hS hws (by omega)) ?_
  show Ev X k_X8_drawAt (23, [some (vr 0), some (vr 126), some (vi (i : Int)), some (vi (k : Int))], [vi (g (2 * k + 2)), vi (g (2 * k + 1)), vr 126]) (MS I J cc ss) _
  refine ev_cp rfl rfl rfl ⟨Nat.le_of_ble_eq_true rfl, Nat.le_of_ble_eq_true rfl⟩ (sp_start_126 X _ _ _ _ (P := (g (2 * k + 1))) (e := (g (2 * k + 2))) (by omega)) (fun I1 J q2 => ?_)
  obtain ⟨rfl, rI1, hD126⟩ := q2
  show Ev X k_X8_drawAt (26, [some (vr 0), some (vr 126), some (vi (i : Int)), some (vi (k : Int))], []) (MS I1 J cc ss) _
  have hO := hO.trans rI1
  have hP := onlyD.P rI1 (by decide) (by decide) hP
  have hI := onlyD.I rI1 (by decide) (by decide) hI
  refine ev_n (fr' := (34, [some (vr 0), some (vr 126), some (vi (i : Int)), some (vi (k : Int))], [vi (-1), vi (-1), vi (i : Int), vr 1, vr 126])) (S' := MS I1 J cc ss) 6 rfl ?_
  refine ev_cp rfl rfl rfl ⟨Nat.le_of_ble_eq_true rfl, Nat.le_of_ble_eq_true rfl⟩ (sp_inkIcon_126 X _ _ _ _ i (-1) (-1) (by omega) (by omega) hwp hwi (by omega) hP hI hD126) (fun I3 J q4 => ?_)
  obtain ⟨rfl, rI3, hD126⟩ := q4
  show Ev X k_X8_drawAt (37, [some (vr 0), some (vr 126), some (vi (i : Int)), some (vi (k : Int))], []) (MS I3 J cc ss) _
  have hO := hO.trans rI3
  have hP := onlyD.P rI3 (by decide) (by decide) hP
  have hI := onlyD.I rI3 (by decide) (by decide) hI
  have hD126 := hD126.congr (D' := iconB g i (-1) (-1) ((g (2 * k + 1))) ((g (2 * k + 2)))) (fun y x => Bool.false_or _)
  refine ev_r rfl rfl rfl ?_
  exact ⟨_, _, rfl, rfl, rfl, hO, hD126⟩
theorem sp_drawAt_128 (X : AX) (I J : Nat → Nat → Int) (cc ss : Nat) {g : F1} (i k : Nat) (hS : SRep I 1 g) (hP : PRep I J 5 g) (hI : IRep I J 9 g) (hwp : WP g) (hwi : WI g) (hws : WS g) (hi : (i : Int) < g 308) (hk : (k : Int) < g 0) : Ev X k_X8_drawAt (0, [some (vr 0), some (vr 128), some (vi (i : Int)), some (vi (k : Int))], []) (MS I J cc ss) (PV cc ss none (fun I' J' => J' = J ∧ onlyD 128 I I' ∧ DR I' 128 (g (2 * k + 1)) (g (2 * k + 2)) (icF g i (g (2 * k + 1)) (g (2 * k + 2))))) := by
  have hO := onlyD.refl 128 I
  have hr := hws.2.2.1 k hk
  refine ev_n (fr' := (9, [some (vr 0), some (vr 128), some (vi (i : Int)), some (vi (k : Int))], [vi (k : Int), vr 2, vr 128])) (S' := MS I J cc ss) 5 rfl ?_
  refine ev_cv rfl rfl rfl ⟨Nat.le_of_ble_eq_true rfl, Nat.le_of_ble_eq_true rfl⟩ (sp_pixelsOf_2 X _ _ _ _ k hS hws (by omega)) ?_
  show Ev X k_X8_drawAt (12, [some (vr 0), some (vr 128), some (vi (i : Int)), some (vi (k : Int))], [vi (g (2 * k + 1)), vr 128]) (MS I J cc ss) _
  refine ev_n (fr' := (20, [some (vr 0), some (vr 128), some (vi (i : Int)), some (vi (k : Int))], [vi (k : Int), vr 2, vi (g (2 * k + 1)), vr 128])) (S' := MS I J cc ss) 4 rfl ?_
  refine ev_cv rfl rfl rfl ⟨Nat.le_of_ble_eq_true rfl, Nat.le_of_ble_eq_true rfl⟩ (sp_extraOf_2 X _ _ _ _ k hS hws (by omega)) ?_
  show Ev X k_X8_drawAt (23, [some (vr 0), some (vr 128), some (vi (i : Int)), some (vi (k : Int))], [vi (g (2 * k + 2)), vi (g (2 * k + 1)), vr 128]) (MS I J cc ss) _
  refine ev_cp rfl rfl rfl ⟨Nat.le_of_ble_eq_true rfl, Nat.le_of_ble_eq_true rfl⟩ (sp_start_128 X _ _ _ _ (P := (g (2 * k + 1))) (e := (g (2 * k + 2))) (by omega)) (fun I1 J q2 => ?_)
  obtain ⟨rfl, rI1, hD128⟩ := q2
  show Ev X k_X8_drawAt (26, [some (vr 0), some (vr 128), some (vi (i : Int)), some (vi (k : Int))], []) (MS I1 J cc ss) _
  have hO := hO.trans rI1
  have hP := onlyD.P rI1 (by decide) (by decide) hP
  have hI := onlyD.I rI1 (by decide) (by decide) hI
  refine ev_n (fr' := (34, [some (vr 0), some (vr 128), some (vi (i : Int)), some (vi (k : Int))], [vi (-1), vi (-1), vi (i : Int), vr 1, vr 128])) (S' := MS I1 J cc ss) 6 rfl ?_
  refine ev_cp rfl rfl rfl ⟨Nat.le_of_ble_eq_true rfl, Nat.le_of_ble_eq_true rfl⟩ (sp_inkIcon_128 X _ _ _ _ i (-1) (-1) (by omega) (by omega) hwp hwi (by omega) hP hI hD128) (fun I3 J q4 => ?_)
  obtain ⟨rfl, rI3, hD128⟩ := q4
  show Ev X k_X8_drawAt (37, [some (vr 0), some (vr 128), some (vi (i : Int)), some (vi (k : Int))], []) (MS I3 J cc ss) _
  have hO := hO.trans rI3
  have hP := onlyD.P rI3 (by decide) (by decide) hP
  have hI := onlyD.I rI3 (by decide) (by decide) hI
  have hD128 := hD128.congr (D' := iconB g i (-1) (-1) ((g (2 * k + 1))) ((g (2 * k + 2)))) (fun y x => Bool.false_or _)
  refine ev_r rfl rfl rfl ?_
  exact ⟨_, _, rfl, rfl, rfl, hO, hD128⟩
theorem sp_drawAt_130 (X : AX) (I J : Nat → Nat → Int) (cc ss : Nat) {g : F1} (i k : Nat) (hS : SRep I 1 g) (hP : PRep I J 5 g) (hI : IRep I J 9 g) (hwp : WP g) (hwi : WI g) (hws : WS g) (hi : (i : Int) < g 308) (hk : (k : Int) < g 0) : Ev X k_X8_drawAt (0, [some (vr 0), some (vr 130), some (vi (i : Int)), some (vi (k : Int))], []) (MS I J cc ss) (PV cc ss none (fun I' J' => J' = J ∧ onlyD 130 I I' ∧ DR I' 130 (g (2 * k + 1)) (g (2 * k + 2)) (icF g i (g (2 * k + 1)) (g (2 * k + 2))))) := by
  have hO := onlyD.refl 130 I
  have hr := hws.2.2.1 k hk
  refine ev_n (fr' := (9, [some (vr 0), some (vr 130), some (vi (i : Int)), some (vi (k : Int))], [vi (k : Int), vr 2, vr 130])) (S' := MS I J cc ss) 5 rfl ?_
  refine ev_cv rfl rfl rfl ⟨Nat.le_of_ble_eq_true rfl, Nat.le_of_ble_eq_true rfl⟩ (sp_pixelsOf_2 X _ _ _ _ k hS hws (by omega)) ?_
  show Ev X k_X8_drawAt (12, [some (vr 0), some (vr 130), some (vi (i : Int)), some (vi (k : Int))], [vi (g (2 * k + 1)), vr 130]) (MS I J cc ss) _
  refine ev_n (fr' := (20, [some (vr 0), some (vr 130), some (vi (i : Int)), some (vi (k : Int))], [vi (k : Int), vr 2, vi (g (2 * k + 1)), vr 130])) (S' := MS I J cc ss) 4 rfl ?_
  refine ev_cv rfl rfl rfl ⟨Nat.le_of_ble_eq_true rfl, Nat.le_of_ble_eq_true rfl⟩ (sp_extraOf_2 X _ _ _ _ k hS hws (by omega)) ?_
  show Ev X k_X8_drawAt (23, [some (vr 0), some (vr 130), some (vi (i : Int)), some (vi (k : Int))], [vi (g (2 * k + 2)), vi (g (2 * k + 1)), vr 130]) (MS I J cc ss) _
  refine ev_cp rfl rfl rfl ⟨Nat.le_of_ble_eq_true rfl, Nat.le_of_ble_eq_true rfl⟩ (sp_start_130 X _ _ _ _ (P := (g (2 * k + 1))) (e := (g (2 * k + 2))) (by omega)) (fun I1 J q2 => ?_)
  obtain ⟨rfl, rI1, hD130⟩ := q2
  show Ev X k_X8_drawAt (26, [some (vr 0), some (vr 130), some (vi (i : Int)), some (vi (k : Int))], []) (MS I1 J cc ss) _
  have hO := hO.trans rI1
  have hP := onlyD.P rI1 (by decide) (by decide) hP
  have hI := onlyD.I rI1 (by decide) (by decide) hI
  refine ev_n (fr' := (34, [some (vr 0), some (vr 130), some (vi (i : Int)), some (vi (k : Int))], [vi (-1), vi (-1), vi (i : Int), vr 1, vr 130])) (S' := MS I1 J cc ss) 6 rfl ?_
  refine ev_cp rfl rfl rfl ⟨Nat.le_of_ble_eq_true rfl, Nat.le_of_ble_eq_true rfl⟩ (sp_inkIcon_130 X _ _ _ _ i (-1) (-1) (by omega) (by omega) hwp hwi (by omega) hP hI hD130) (fun I3 J q4 => ?_)
  obtain ⟨rfl, rI3, hD130⟩ := q4
  show Ev X k_X8_drawAt (37, [some (vr 0), some (vr 130), some (vi (i : Int)), some (vi (k : Int))], []) (MS I3 J cc ss) _
  have hO := hO.trans rI3
  have hP := onlyD.P rI3 (by decide) (by decide) hP
  have hI := onlyD.I rI3 (by decide) (by decide) hI
  have hD130 := hD130.congr (D' := iconB g i (-1) (-1) ((g (2 * k + 1))) ((g (2 * k + 2)))) (fun y x => Bool.false_or _)
  refine ev_r rfl rfl rfl ?_
  exact ⟨_, _, rfl, rfl, rfl, hO, hD130⟩
theorem lp_mw (X : AX) (I J : Nat → Nat → Int) (cc ss : Nat) {g : F1} (I0 : F2) (P e : Int) (hP : PRep I J 5 g) (hI : IRep I J 9 g) (hwp : WP g) (hwi : WI g) (hQ4 : 4 ≤ P ∧ P ≤ 32) (he : -2 ≤ e ∧ e ≤ 2) (h0 : g 308 ≠ 0) (k : Nat) (z : Int) (hk : (k : Int) ≤ g 308) (hz : z = sumF (wtF g P e) k) (hO : onlyD 126 I0 I) : Ev X k_X8_meanWeight (23, [some (vr 0), some (vi P), some (vi e), some (vi (g 308)), some (vi z), some (vi (k : Int))], []) (MS I J cc ss) (PZ cc ss (fun z I' J' => J' = J ∧ onlyD 126 I0 I' ∧ z = mwF g P e)) := by
  have hb := sumF_rng (f := wtF g P e) (b := 1000) k (fun i _ => wtF_rng hQ4 i)
  have hb2 := wtF_rng (g := g) (e := e) hQ4 k
  have hb3 : wF (icF g k P e) P = wtF g P e k := rfl
  have h8 := hwi.2.1
  have h80 := hwi.1
  refine ev_n (fr' := (26, [some (vr 0), some (vi P), some (vi e), some (vi (g 308)), some (vi z), some (vi (k : Int))], [vi (g 308), vi (k : Int)])) (S' := MS I J cc ss) 2 rfl ?_
  refine ev_ic (c := .ge) (off := 45) rfl (by decide) (fun (g1 : (g 308) ≤ (k : Int)) => ?_) (fun (g1 : ¬ ((g 308) ≤ (k : Int))) => ?_)
  · show Ev X k_X8_meanWeight (71, [some (vr 0), some (vi P), some (vi e), some (vi (g 308)), some (vi z), some (vi (k : Int))], []) (MS I J cc ss) _
    refine ev_n (fr' := (74, [some (vr 0), some (vi P), some (vi e), some (vi (g 308)), some (vi z), some (vi (k : Int))], [vi (g 308), vi z])) (S' := MS I J cc ss) 2 rfl ?_
    refine ev_div (z := z / g 308) rfl (by omega) (by omega) rfl ?_
    show Ev X k_X8_meanWeight (75, [some (vr 0), some (vi P), some (vi e), some (vi (g 308)), some (vi z), some (vi (k : Int))], [vi (z / g 308)]) (MS I J cc ss) _
    refine ev_r rfl rfl rfl ?_
    exact ⟨_, _, _, rfl, rfl, rfl, hO, by unfold mwF; rw [if_neg h0, hz, show (g 308).toNat = k by omega]⟩
  · show Ev X k_X8_meanWeight (29, [some (vr 0), some (vi P), some (vi e), some (vi (g 308)), some (vi z), some (vi (k : Int))], []) (MS I J cc ss) _
    refine ev_n (fr' := (35, [some (vr 0), some (vi P), some (vi e), some (vi (g 308)), some (vi z), some (vi (k : Int))], [vi e, vi P, vr 126])) (S' := MS I J cc ss) 4 rfl ?_
    refine ev_cp rfl rfl rfl ⟨Nat.le_of_ble_eq_true rfl, Nat.le_of_ble_eq_true rfl⟩ (sp_start_126 X _ _ _ _ (P := P) (e := e) (by omega)) (fun I1 J q2 => ?_)
    obtain ⟨rfl, rI1, hD126⟩ := q2
    show Ev X k_X8_meanWeight (38, [some (vr 0), some (vi P), some (vi e), some (vi (g 308)), some (vi z), some (vi (k : Int))], []) (MS I1 J cc ss) _
    have hO := hO.trans rI1
    have hP := onlyD.P rI1 (by decide) (by decide) hP
    have hI := onlyD.I rI1 (by decide) (by decide) hI
    refine ev_n (fr' := (50, [some (vr 0), some (vi P), some (vi e), some (vi (g 308)), some (vi z), some (vi (k : Int))], [vi (-1), vi (-1), vi (k : Int), vr 1, vr 126])) (S' := MS I1 J cc ss) 7 rfl ?_
    refine ev_cp rfl rfl rfl ⟨Nat.le_of_ble_eq_true rfl, Nat.le_of_ble_eq_true rfl⟩ (sp_inkIcon_126 X _ _ _ _ k (-1) (-1) (by omega) (by omega) hwp hwi (by omega) hP hI hD126) (fun I3 J q4 => ?_)
    obtain ⟨rfl, rI3, hD126⟩ := q4
    show Ev X k_X8_meanWeight (53, [some (vr 0), some (vi P), some (vi e), some (vi (g 308)), some (vi z), some (vi (k : Int))], []) (MS I3 J cc ss) _
    have hO := hO.trans rI3
    have hP := onlyD.P rI3 (by decide) (by decide) hP
    have hI := onlyD.I rI3 (by decide) (by decide) hI
    have hD126 := hD126.congr (D' := iconB g k (-1) (-1) (P) (e)) (fun y x => Bool.false_or _)
    refine ev_n (fr' := (59, [some (vr 0), some (vi P), some (vi e), some (vi (g 308)), some (vi z), some (vi (k : Int))], [vr 126, vi z])) (S' := MS I3 J cc ss) 3 rfl ?_
    refine ev_cv rfl rfl rfl ⟨Nat.le_of_ble_eq_true rfl, Nat.le_of_ble_eq_true rfl⟩ (sp_weight_126 X _ _ _ _ hD126 hQ4) ?_
    show Ev X k_X8_meanWeight (62, [some (vr 0), some (vi P), some (vi e), some (vi (g 308)), some (vi z), some (vi (k : Int))], [vi (wF (icF g k P e) P), vi z]) (MS I3 J cc ss) _
    refine ev_add (z := z + (wF (icF g k P e) P)) rfl (by omega) (by omega) (by omega) ?_
    show Ev X k_X8_meanWeight (63, [some (vr 0), some (vi P), some (vi e), some (vi (g 308)), some (vi z), some (vi (k : Int))], [vi (z + (wF (icF g k P e) P))]) (MS I3 J cc ss) _
    refine ev_n (fr' := (65, [some (vr 0), some (vi P), some (vi e), some (vi (g 308)), some (vi (z + (wF (icF g k P e) P))), some (vi (k : Int))], [])) (S' := MS I3 J cc ss) 1 rfl ?_
    refine ev_inc (z := (k : Int) + 1) rfl rfl (by omega) (by omega) (by omega) rfl ?_
    show Ev X k_X8_meanWeight (68, [some (vr 0), some (vi P), some (vi e), some (vi (g 308)), some (vi (z + (wF (icF g k P e) P))), some (vi ((k : Int) + 1))], []) (MS I3 J cc ss) _
    refine ev_n (fr' := (23, [some (vr 0), some (vi P), some (vi e), some (vi (g 308)), some (vi (z + (wF (icF g k P e) P))), some (vi ((k : Int) + 1))], [])) (S' := MS I3 J cc ss) 1 rfl ?_
    exact lp_mw X _ _ cc ss I0 P e hP hI hwp hwi hQ4 he h0 (k + 1) (z + (wF (icF g k P e) P)) (by omega) (by rw [hz]; rfl) hO
termination_by 9 - k
decreasing_by all_goals omega
theorem sp_meanWeight (X : AX) (I J : Nat → Nat → Int) (cc ss : Nat) {g : F1} (P e : Int) (hP : PRep I J 5 g) (hI : IRep I J 9 g) (hwp : WP g) (hwi : WI g) (hQ4 : 4 ≤ P ∧ P ≤ 32) (he : -2 ≤ e ∧ e ≤ 2) : Ev X k_X8_meanWeight (0, [some (vr 0), some (vi P), some (vi e), none, none, none], []) (MS I J cc ss) (PZ cc ss (fun z I' J' => J' = J ∧ onlyD 126 I I' ∧ z = mwF g P e)) := by
  refine ev_n (fr' := (7, [some (vr 0), some (vi P), some (vi e), none, none, none], [vr 9])) (S' := MS I J cc ss) 3 rfl ?_
  refine ev_cv rfl rfl rfl ⟨Nat.le_of_ble_eq_true rfl, Nat.le_of_ble_eq_true rfl⟩ (sp_rowCount_9 X _ _ _ _  hI) ?_
  show Ev X k_X8_meanWeight (10, [some (vr 0), some (vi P), some (vi e), none, none, none], [vi (g 308)]) (MS I J cc ss) _
  refine ev_n (fr' := (12, [some (vr 0), some (vi P), some (vi e), some (vi (g 308)), none, none], [vi (g 308)])) (S' := MS I J cc ss) 2 rfl ?_
  refine ev_if (c := .ne) (off := 5) rfl (by decide) (fun (g1 : (g 308) ≠ 0) => ?_) (fun (g1 : ¬ ((g 308) ≠ 0)) => ?_)
  · show Ev X k_X8_meanWeight (17, [some (vr 0), some (vi P), some (vi e), some (vi (g 308)), none, none], []) (MS I J cc ss) _
    refine ev_n (fr' := (23, [some (vr 0), some (vi P), some (vi e), some (vi (g 308)), some (vi 0), some (vi 0)], [])) (S' := MS I J cc ss) 4 rfl ?_
    exact lp_mw X I J cc ss I P e hP hI hwp hwi hQ4 he g1 0 0 (by have := hwi.1; omega) rfl (onlyD.refl _ _)
  · show Ev X k_X8_meanWeight (15, [some (vr 0), some (vi P), some (vi e), some (vi (g 308)), none, none], []) (MS I J cc ss) _
    refine ev_n (fr' := (16, [some (vr 0), some (vi P), some (vi e), some (vi (g 308)), none, none], [vi 0])) (S' := MS I J cc ss) 1 rfl ?_
    refine ev_r rfl rfl rfl ?_
    exact ⟨_, _, _, rfl, rfl, rfl, onlyD.refl _ _, by unfold mwF; rw [if_pos (by omega)]⟩
theorem sp_topologyAt (X : AX) (I J : Nat → Nat → Int) (cc ss : Nat) {g : F1} (i n : Nat) (e : Int) (hP : PRep I J 5 g) (hI : IRep I J 9 g) (hwp : WP g) (hwi : WI g) (hn32 : n ≤ 32) (he : -2 ≤ e ∧ e ≤ 2) (hi : (i : Int) < g 308) : Ev X k_X8_topologyAt (0, [some (vr 0), some (vi (i : Int)), some (vi (n : Int)), some (vi e)], []) (MS I J cc ss) (PZ cc ss (fun z I' J' => J' = J ∧ scrC I I' ∧ z = tpF g i n e)) := by
  have hO := onlyD.refl 126 I
  refine ev_n (fr' := (6, [some (vr 0), some (vi (i : Int)), some (vi (n : Int)), some (vi e)], [vi e, vi (n : Int), vr 126])) (S' := MS I J cc ss) 4 rfl ?_
  refine ev_cp rfl rfl rfl ⟨Nat.le_of_ble_eq_true rfl, Nat.le_of_ble_eq_true rfl⟩ (sp_start_126 X _ _ _ _ (P := (n : Int)) (e := e) (by omega)) (fun I1 J q2 => ?_)
  obtain ⟨rfl, rI1, hD126⟩ := q2
  show Ev X k_X8_topologyAt (9, [some (vr 0), some (vi (i : Int)), some (vi (n : Int)), some (vi e)], []) (MS I1 J cc ss) _
  have hO := hO.trans rI1
  have hP := onlyD.P rI1 (by decide) (by decide) hP
  have hI := onlyD.I rI1 (by decide) (by decide) hI
  refine ev_n (fr' := (20, [some (vr 0), some (vi (i : Int)), some (vi (n : Int)), some (vi e)], [vi (-1), vi (-1), vi (i : Int), vr 1, vr 126])) (S' := MS I1 J cc ss) 7 rfl ?_
  refine ev_cp rfl rfl rfl ⟨Nat.le_of_ble_eq_true rfl, Nat.le_of_ble_eq_true rfl⟩ (sp_inkIcon_126 X _ _ _ _ i (-1) (-1) (by omega) (by omega) hwp hwi (by omega) hP hI hD126) (fun I3 J q4 => ?_)
  obtain ⟨rfl, rI3, hD126⟩ := q4
  show Ev X k_X8_topologyAt (23, [some (vr 0), some (vi (i : Int)), some (vi (n : Int)), some (vi e)], []) (MS I3 J cc ss) _
  have hO := hO.trans rI3
  have hP := onlyD.P rI3 (by decide) (by decide) hP
  have hI := onlyD.I rI3 (by decide) (by decide) hI
  have hD126 := hD126.congr (D' := iconB g i (-1) (-1) ((n : Int)) (e)) (fun y x => Bool.false_or _)
  have hT := hO.scr (by decide)
  refine ev_n (fr' := (31, [some (vr 0), some (vi (i : Int)), some (vi (n : Int)), some (vi e)], [vr 126, vr 132])) (S' := MS I3 J cc ss) 4 rfl ?_
  refine ev_cz rfl rfl rfl ⟨Nat.le_of_ble_eq_true rfl, Nat.le_of_ble_eq_true rfl⟩ (sp_pieces X _ _ _ _ hD126 hn32 (fun y x q => by have := iconB_sup q; omega)) (fun zpieces I5 J q6 => ?_)
  obtain ⟨rfl, rI5, hzpieces⟩ := q6
  show Ev X k_X8_topologyAt (34, [some (vr 0), some (vi (i : Int)), some (vi (n : Int)), some (vi e)], [vi zpieces]) (MS I5 J cc ss) _
  have hT := hT.trans rI5.scr
  have hD126 : DR I5 126 (n : Int) e (icF g i (n : Int) e) := by
    unfold DR at hD126 ⊢; rw [rI5 126 (by decide) (by decide) (by decide), rI5 127 (by decide) (by decide) (by decide)]; exact hD126
  have hgpieces := grQ_rng (n := n) (dg := true) (ins := false) (O := icF g i (n : Int) e) (n * n)
  have hnn : n * n ≤ 32 * 32 := Nat.mul_le_mul hn32 hn32
  have hzpieces2 : zpieces = grQ n true false (icF g i (n : Int) e) (n * n) := hzpieces
  refine ev_n (fr' := (36, [some (vr 0), some (vi (i : Int)), some (vi (n : Int)), some (vi e)], [vi 32, vi zpieces])) (S' := MS I5 J cc ss) 1 rfl ?_
  refine ev_mul (z := 32 * zpieces) rfl (by omega) (by omega) (by omega) ?_
  show Ev X k_X8_topologyAt (37, [some (vr 0), some (vi (i : Int)), some (vi (n : Int)), some (vi e)], [vi (32 * zpieces)]) (MS I5 J cc ss) _
  refine ev_n (fr' := (39, [some (vr 0), some (vi (i : Int)), some (vi (n : Int)), some (vi e)], [vi 32, vi (32 * zpieces)])) (S' := MS I5 J cc ss) 1 rfl ?_
  refine ev_mul (z := 1024 * zpieces) rfl (by omega) (by omega) (by omega) ?_
  show Ev X k_X8_topologyAt (40, [some (vr 0), some (vi (i : Int)), some (vi (n : Int)), some (vi e)], [vi (1024 * zpieces)]) (MS I5 J cc ss) _
  refine ev_n (fr' := (48, [some (vr 0), some (vi (i : Int)), some (vi (n : Int)), some (vi e)], [vr 126, vr 132, vi (1024 * zpieces)])) (S' := MS I5 J cc ss) 4 rfl ?_
  refine ev_cz rfl rfl rfl ⟨Nat.le_of_ble_eq_true rfl, Nat.le_of_ble_eq_true rfl⟩ (sp_holes X _ _ _ _ hD126 hn32 (fun y x q => by have := iconB_sup q; omega)) (fun zholes I7 J q8 => ?_)
  obtain ⟨rfl, rI7, hzholes⟩ := q8
  show Ev X k_X8_topologyAt (51, [some (vr 0), some (vi (i : Int)), some (vi (n : Int)), some (vi e)], [vi zholes, vi (1024 * zpieces)]) (MS I7 J cc ss) _
  have hT := hT.trans rI7.scr
  have hD126 : DR I7 126 (n : Int) e (icF g i (n : Int) e) := by
    unfold DR at hD126 ⊢; rw [rI7 126 (by decide) (by decide) (by decide), rI7 127 (by decide) (by decide) (by decide)]; exact hD126
  have hgholes := grQ_rng (n := n) (dg := false) (ins := true) (O := holB (icF g i (n : Int) e) n) (n * n)
  have hnn : n * n ≤ 32 * 32 := Nat.mul_le_mul hn32 hn32
  have hzholes2 : zholes = grQ n false true (holB (icF g i (n : Int) e) n) (n * n) := hzholes
  refine ev_add (z := 1024 * zpieces + zholes) rfl (by omega) (by omega) (by omega) ?_
  show Ev X k_X8_topologyAt (52, [some (vr 0), some (vi (i : Int)), some (vi (n : Int)), some (vi e)], [vi (1024 * zpieces + zholes)]) (MS I7 J cc ss) _
  refine ev_r rfl rfl rfl ?_
  exact ⟨_, _, _, rfl, rfl, rfl, hT, by unfold tpF; rw [← hzpieces, ← hzholes]⟩
