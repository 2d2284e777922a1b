/-! THE CLASS reads a set (printed by gen/g97.py) -/
def onlyP (I I' J J' : F2) : Prop := (∀ c, c < 114 ∨ 126 ≤ c → c ≠ 111 → I' c = I c) ∧ I' 111 2 = I 111 2 ∧ (∀ c, c < 114 ∨ 126 ≤ c → J' c = J c) ∧ I' 118 0 = I 118 0 ∧ I' 122 0 = I 122 0
theorem onlyP.refl (I J : F2) : onlyP I I J J := ⟨fun _ _ _ => rfl, rfl, fun _ _ => rfl, rfl, rfl⟩
theorem onlyP.trans {I I' I2 J J' J2 : F2} (h : onlyP I I' J J') (h2 : onlyP I' I2 J' J2) : onlyP I I2 J J2 := ⟨fun c h3 h4 => (h2.1 c h3 h4).trans (h.1 c h3 h4), h2.2.1.trans h.2.1, fun c hc => (h2.2.2.1 c hc).trans (h.2.2.1 c hc), h2.2.2.2.1.trans h.2.2.2.1, h2.2.2.2.2.trans h.2.2.2.2⟩
theorem onlyT.p {I I' J : F2} (h : onlyT I I') : onlyP I I' J J := ⟨fun c _ hc => h.1 c hc, h.2, fun _ _ => rfl, congrFun (h.1 118 (by decide)) 0, congrFun (h.1 122 (by decide)) 0⟩
theorem onlyZ.p {I I' J : F2} (h : onlyZ I I') : onlyP I I' J J := ⟨fun c h1 hc => h.1 c hc (by omega) (by omega) (by omega), h.2, fun _ _ => rfl, congrFun (h.1 118 (by decide) (by decide) (by decide) (by decide)) 0, congrFun (h.1 122 (by decide) (by decide) (by decide) (by decide)) 0⟩
theorem onlyRw.p {R : Nat} (hR : R = 118 ∨ R = 122) {I I' J J' : F2} (h : onlyRw R I I' J J') : onlyP I I' J J' := ⟨fun c h1 hc => h.1 c hc (by omega) (by omega) (by omega), h.2.1, fun c hc => h.2.2.1 c (by omega), by
    rcases hR with e | e
    · rw [e] at h; exact h.2.2.2
    · rw [e] at h; exact congrFun (h.1 118 (by decide) (by decide) (by decide) (by decide)) 0, by
    rcases hR with e | e
    · rw [e] at h; exact congrFun (h.1 122 (by decide) (by decide) (by decide) (by decide)) 0
    · rw [e] at h; exact h.2.2.2⟩
theorem onlyP.e {I0 I J0 J : F2} {c s : Int} (h : onlyP I0 I J0 J) : onlyP I0 (up2 (up2 I 111 6 c) 111 7 s) J0 J := ⟨fun a h1 h2 => by rw [up2_row _ _ _ _ h2, up2_row _ _ _ _ h2]; exact h.1 a h1 h2, by rw [up2_ne2 _ _ _ _ (by decide), up2_ne2 _ _ _ _ (by decide)]; exact h.2.1, h.2.2.1, (congrFun (up2_row _ _ _ _ (by decide)) 0).trans ((congrFun (up2_row _ _ _ _ (by decide)) 0).trans h.2.2.2.1), (congrFun (up2_row _ _ _ _ (by decide)) 0).trans ((congrFun (up2_row _ _ _ _ (by decide)) 0).trans h.2.2.2.2)⟩
theorem onlyP.u {I0 I J0 J : F2} {f : Nat} {v : Int} (hf : f ≠ 2) (h : onlyP I0 I J0 J) : onlyP I0 (up2 I 111 f v) J0 J := ⟨fun a h1 h2 => (up2_row _ _ _ _ h2).trans (h.1 a h1 h2), (up2_ne2 _ _ _ _ (Ne.symm hf)).trans h.2.1, h.2.2.1, (congrFun (up2_row _ _ _ _ (by decide)) 0).trans h.2.2.2.1, (congrFun (up2_row _ _ _ _ (by decide)) 0).trans h.2.2.2.2⟩
theorem SRep.u {I : F2} {f : Nat} {g : F1} {v : Int} (h : SRep I 114 g) : SRep (up2 I 111 f v) 114 g := by
  unfold SRep; rw [up2_row _ _ _ _ (show 114 + 1 ≠ 111 by decide), up2_row _ _ _ _ (show 114 + 2 ≠ 111 by decide), up2_row _ _ _ _ (show 114 + 3 ≠ 111 by decide)]; exact h
theorem atF_m1 {I tx : F1} {J : F2} {n i : Nat} (h : TB J tx n) (h2 : atF tx n i = -1) : n ≤ i := by
  rcases Nat.lt_or_ge i n with q | q
  · rw [atF_in q] at h2
    have := h.rng q
    omega
  · exact q
def SetQ (I I' J J' : F2) (r : F1 ⊕ (Int × Nat)) (z : Int) : Prop := onlyP I I' J J' ∧ match r with
  | .inl d' => z = 1 ∧ I' 111 7 = -1 ∧ SetR I' J' 114 d' ∧ WF d'
  | .inr (c, s) => z = 0 ∧ ER I' c s
theorem pStm_1 {st : Bool} {tx : F1} {n a : Nat} {d : F1} (h : wdF tx n a = 632645) : pStm st tx n d a = pSz st tx n d a (leF tx n a) := if_pos h
theorem pStm_2 {st : Bool} {tx : F1} {n a : Nat} {d : F1} (h : wdF tx n a = 525908) : pStm st tx n d a = pRP tx n d (d 11).toNat a (leF tx n a) := by
  unfold pStm; rw [if_neg (by omega), if_pos h]
theorem pStm_3 {st : Bool} {tx : F1} {n a : Nat} {d : F1} (h : wdF tx n a = 298478) : pStm st tx n d a = pRI st tx n d (d 308).toNat a (leF tx n a) := by
  unfold pStm; rw [if_neg (by omega), if_neg (by omega), if_pos h]
theorem pStm_4 {st : Bool} {tx : F1} {n a : Nat} {d : F1} (h1 : wdF tx n a ≠ 632645) (h2 : wdF tx n a ≠ 525908) (h3 : wdF tx n a ≠ 298478) : pStm st tx n d a = .inr (-2, a) := by
  unfold pStm; rw [if_neg h1, if_neg h2, if_neg h3]
theorem lp_set (X : AX) (I J : Nat → Nat → Int) (cc ss : Nat) (I0 J0 : F2) (len : Int) (m k : Nat) (hmk : m + k = 900) {tx : F1} {n : Nat} (hT : TB I tx n) (hn : I 111 2 = (n : Int)) (p : Nat) (hp : I 111 3 = (p : Int)) (hkn : p ≤ n) (hkp : k ≤ p) {d : F1} (dS : SRep I 114 d) (dP : PRep I J 118 d) (dI : IRep I J 122 d) (hw : WF d) (h7 : I 111 7 = -1) (hO : onlyP I0 I J0 J) (v3 v5 : Option AV) : Ev X k_X4_readSet (29, [some (vr 111), some (vi len), some (vi (k : Int)), v3, none, v5], []) (MS I J cc ss) (PZ cc ss (fun z I' J' => SetQ I0 I' J0 J' (pSet true tx n m d p) z)) := by
  have h900 := hT.le
  have hd0 := hw.1.1
  have hd11 := hw.2.1.1
  have hd308 := hw.2.2.1
  refine ev_n (fr' := (33, [some (vr 111), some (vi len), some (vi (k : Int)), v3, none, v5], [vi 900, vi (k : Int)])) (S' := MS I J cc ss) 2 rfl ?_
  refine ev_ic (c := .ge) (off := 132) rfl (by decide) (fun (g1 : 900 ≤ (k : Int)) => ?_) (fun (g1 : ¬ (900 ≤ (k : Int))) => ?_)
  · show Ev X k_X4_readSet (165, [some (vr 111), some (vi len), some (vi (k : Int)), v3, none, v5], []) (MS I J cc ss) _
    refine ev_n (fr' := (166, [some (vr 111), some (vi len), some (vi (k : Int)), v3, none, v5], [vi 1])) (S' := MS I J cc ss) 1 rfl ?_
    refine ev_r rfl rfl rfl ?_
    have e0 : m = 0 := by omega
    subst e0
    exact ⟨_, _, _, rfl, rfl, hO, rfl, h7, ⟨dS, dP, dI⟩, hw⟩
  · show Ev X k_X4_readSet (36, [some (vr 111), some (vi len), some (vi (k : Int)), v3, none, v5], []) (MS I J cc ss) _
    refine ev_n (fr' := (37, [some (vr 111), some (vi len), some (vi (k : Int)), v3, none, v5], [vr 111])) (S' := MS I J cc ss) 1 rfl ?_
    refine ev_cp rfl rfl rfl ⟨Nat.le_of_ble_eq_true rfl, Nat.le_of_ble_eq_true rfl⟩ (sp_peek X _ _ _ _ hT hn p hp hkn) (fun I1 J q2 => ?_)
    obtain ⟨rfl, rAI1, rBI1, hp⟩ := q2
    show Ev X k_X4_readSet (40, [some (vr 111), some (vi len), some (vi (k : Int)), v3, none, v5], [vi (atF tx n (spF tx n p))]) (MS I1 J cc ss) _
    have hn := (rBI1 2 (by decide)).trans hn
    have hT := hT.cell (rAI1 112 (by decide)) (rAI1 113 (by decide))
    have hkn := spF_le (tx := tx) (n := n) p hkn
    have hT1 := pk_T rAI1 rBI1
    have hO := hO.trans (hT1.p (J := _))
    have dP := dP.t (by decide) hT1
    have dI := dI.t (by decide) hT1
    have dS := dS.t hT1
    have h7 := (rBI1 7 (by decide)).trans h7
    refine ev_n (fr' := (41, [some (vr 111), some (vi len), some (vi (k : Int)), v3, none, v5], [vi (-1), vi (atF tx n (spF tx n p))])) (S' := MS I1 J cc ss) 1 rfl ?_
    refine ev_ic (c := .eq) (off := 124) rfl (by decide) (fun (g2 : (atF tx n (spF tx n p)) = -1) => ?_) (fun (g2 : ¬ ((atF tx n (spF tx n p)) = -1)) => ?_)
    · show Ev X k_X4_readSet (165, [some (vr 111), some (vi len), some (vi (k : Int)), v3, none, v5], []) (MS I1 J cc ss) _
      refine ev_n (fr' := (166, [some (vr 111), some (vi len), some (vi (k : Int)), v3, none, v5], [vi 1])) (S' := MS I1 J cc ss) 1 rfl ?_
      refine ev_r rfl rfl rfl ?_
      rw [pSet_end (atF_m1 (I := tx) hT g2)]
      exact ⟨_, _, _, rfl, rfl, hO, rfl, h7, ⟨dS, dP, dI⟩, hw⟩
    · show Ev X k_X4_readSet (44, [some (vr 111), some (vi len), some (vi (k : Int)), v3, none, v5], []) (MS I1 J cc ss) _
      have hat : ¬ (atF tx n (spF tx n p) = -1) := g2
      refine ev_n (fr' := (45, [some (vr 111), some (vi len), some (vi (k : Int)), v3, none, v5], [vr 111])) (S' := MS I1 J cc ss) 1 rfl ?_
      refine ev_cp rfl rfl rfl ⟨Nat.le_of_ble_eq_true rfl, Nat.le_of_ble_eq_true rfl⟩ (sp_readWordA X _ _ _ _ hT hn (spF tx n p) hp hkn spF_idem) (fun I3 J q4 => ?_)
      obtain ⟨rfl, rAI3, rBI3, hp, hq4⟩ := q4
      show Ev X k_X4_readSet (48, [some (vr 111), some (vi len), some (vi (k : Int)), v3, none, v5], [vl (wdF tx n (spF tx n p))]) (MS I3 J cc ss) _
      have hT2 := rw_T rAI3 rBI3
      have hn := hT2.2.trans hn
      have hT := hT.t hT2
      have hkn := leF_le (tx := tx) (n := n) (spF tx n p) hkn
      have hO := hO.trans (hT2.p (J := _))
      have dP := dP.t (by decide) hT2
      have dI := dI.t (by decide) hT2
      have dS := dS.t hT2
      have h7 := (rBI3 7 (by decide) (by decide)).trans h7
      have hge := leF_ge (tx := tx) (n := n) (spF tx n p)
      refine ev_n (fr' := (53, [some (vr 111), some (vi len), some (vi (k : Int)), some (vl (wdF tx n (spF tx n p))), none, v5], [vl 632645, vl (wdF tx n (spF tx n p))])) (S' := MS I3 J cc ss) 3 rfl ?_
      refine ev_lc (c := .ne) (off := 10) rfl rfl (by decide) (fun (g3 : (wdF tx n (spF tx n p)) ≠ 632645) => ?_) (fun (g3 : ¬ ((wdF tx n (spF tx n p)) ≠ 632645)) => ?_)
      · show Ev X k_X4_readSet (64, [some (vr 111), some (vi len), some (vi (k : Int)), some (vl (wdF tx n (spF tx n p))), none, v5], []) (MS I3 J cc ss) _
        refine ev_n (fr' := (68, [some (vr 111), some (vi len), some (vi (k : Int)), some (vl (wdF tx n (spF tx n p))), none, v5], [vl 525908, vl (wdF tx n (spF tx n p))])) (S' := MS I3 J cc ss) 2 rfl ?_
        refine ev_lc (c := .ne) (off := 18) rfl rfl (by decide) (fun (g4 : (wdF tx n (spF tx n p)) ≠ 525908) => ?_) (fun (g4 : ¬ ((wdF tx n (spF tx n p)) ≠ 525908)) => ?_)
        · show Ev X k_X4_readSet (87, [some (vr 111), some (vi len), some (vi (k : Int)), some (vl (wdF tx n (spF tx n p))), none, v5], []) (MS I3 J cc ss) _
          refine ev_n (fr' := (91, [some (vr 111), some (vi len), some (vi (k : Int)), some (vl (wdF tx n (spF tx n p))), none, v5], [vl 298478, vl (wdF tx n (spF tx n p))])) (S' := MS I3 J cc ss) 2 rfl ?_
          refine ev_lc (c := .ne) (off := 18) rfl rfl (by decide) (fun (g5 : (wdF tx n (spF tx n p)) ≠ 298478) => ?_) (fun (g5 : ¬ ((wdF tx n (spF tx n p)) ≠ 298478)) => ?_)
          · show Ev X k_X4_readSet (110, [some (vr 111), some (vi len), some (vi (k : Int)), some (vl (wdF tx n (spF tx n p))), none, v5], []) (MS I3 J cc ss) _
            refine ev_n (fr' := (117, [some (vr 111), some (vi len), some (vi (k : Int)), some (vl (wdF tx n (spF tx n p))), none, v5], [vi (I3 111 4), vi (-2), vr 111])) (S' := MS I3 J cc ss) 4 rfl ?_
            refine ev_eqi (hq4) ?_
            show Ev X k_X4_readSet (117, [some (vr 111), some (vi len), some (vi (k : Int)), some (vl (wdF tx n (spF tx n p))), none, v5], [vi ((spF tx n p) : Int), vi (-2), vr 111]) (MS I3 J cc ss) _
            refine ev_cv rfl rfl rfl ⟨Nat.le_of_ble_eq_true rfl, Nat.le_of_ble_eq_true rfl⟩ (sp_fail X _ _ _ _ (-2) ((spF tx n p) : Int)) ?_
            show Ev X k_X4_readSet (120, [some (vr 111), some (vi len), some (vi (k : Int)), some (vl (wdF tx n (spF tx n p))), none, v5], [vi 0]) (MS (up2 (up2 I3 111 6 (-2)) 111 7 ((spF tx n p) : Int)) J cc ss) _
            refine ev_n (fr' := (128, [some (vr 111), some (vi len), some (vi (k : Int)), some (vl (wdF tx n (spF tx n p))), none, some (vi 0)], [vi 0])) (S' := MS (up2 (up2 I3 111 6 (-2)) 111 7 ((spF tx n p) : Int)) J cc ss) 4 rfl ?_
            refine ev_r rfl rfl rfl ?_
            obtain ⟨m2, rfl⟩ : ∃ m2, m = m2 + 1 := ⟨m - 1, by omega⟩
            have hne : ¬ n ≤ spF tx n p := fun h => hat (atF_out h)
            rw [pSet_er hne (pStm_4 (by assumption) (by assumption) (by assumption))]
            exact ⟨_, _, _, rfl, rfl, hO.e, rfl, ER.mk⟩
          · show Ev X k_X4_readSet (95, [some (vr 111), some (vi len), some (vi (k : Int)), some (vl (wdF tx n (spF tx n p))), none, v5], []) (MS I3 J cc ss) _
            refine ev_n (fr' := (104, [some (vr 111), some (vi len), some (vi (k : Int)), some (vl (wdF tx n (spF tx n p))), none, v5], [vi 0, vr 122, vr 111])) (S' := MS I3 J cc ss) 5 rfl ?_
            refine ev_cz rfl rfl rfl ⟨Nat.le_of_ble_eq_true rfl, Nat.le_of_ble_eq_true rfl⟩ (sp_readRowI X _ _ _ _ (spF tx n p) (d 308).toNat hT hn (leF tx n (spF tx n p)) hp hkn hq4 dP hw.2.1 dI hw.2.2 (by omega)) (fun z1 I5 J6 q7 => ?_)
            obtain ⟨hF0, hz9⟩ := q7
            rcases hr1 : pRI true tx n d (d 308).toNat (spF tx n p) (leF tx n (spF tx n p)) with ⟨e1, d1⟩ | ⟨c1, s1⟩ <;> rw [hr1] at hz9
            · have hF := hF0.p (by decide)
              have hst : pStm true tx n d (spF tx n p) = .inl (e1, d1) := (pStm_3 (by omega)).trans hr1
              obtain ⟨rfl, hp, hkn, h71, dI⟩ := hz9
              have hok := pRI_ok hw (by omega) hr1
              have dS := SRep.eqv dS hw.1 (fun k hk => hok.2.2 k (by omega)) (fun a h1 h2 => hF0.1 a (by omega) (by omega) (by omega) (by omega))
              have dP := PRep.eqv dP hw.2.1 (fun k hk => hok.2.2 k (by omega)) (fun a h1 h2 => ⟨hF0.1 a (by omega) (by omega) (by omega) (by omega), hF0.2.2.1 a (by omega)⟩)
              have hn := hF.2.1.trans hn
              have hT := hT.cell (hF.1 112 (by omega) (by decide)) (hF.1 113 (by omega) (by decide))
              have hO := hO.trans hF
              have h7 := h71.trans h7
              have hw := hok.2.1
              show Ev X k_X4_readSet (107, [some (vr 111), some (vi len), some (vi (k : Int)), some (vl (wdF tx n (spF tx n p))), none, v5], [vi 1]) (MS I5 J6 cc ss) _
              refine ev_n (fr' := (130, [some (vr 111), some (vi len), some (vi (k : Int)), some (vl (wdF tx n (spF tx n p))), none, some (vi 1)], [vr 111])) (S' := MS I5 J6 cc ss) 5 rfl ?_
              refine ev_cp rfl rfl rfl ⟨Nat.le_of_ble_eq_true rfl, Nat.le_of_ble_eq_true rfl⟩ (sp_peek X _ _ _ _ hT hn e1 hp hkn) (fun I8 J6 q9 => ?_)
              obtain ⟨rfl, rAI8, rBI8, hp⟩ := q9
              show Ev X k_X4_readSet (133, [some (vr 111), some (vi len), some (vi (k : Int)), some (vl (wdF tx n (spF tx n p))), none, some (vi 1)], [vi (atF tx n (spF tx n e1))]) (MS I8 J6 cc ss) _
              have hn := (rBI8 2 (by decide)).trans hn
              have hT := hT.cell (rAI8 112 (by decide)) (rAI8 113 (by decide))
              have hkn := spF_le (tx := tx) (n := n) e1 hkn
              have hT1 := pk_T rAI8 rBI8
              have hO := hO.trans (hT1.p (J := _))
              have dP := dP.t (by decide) hT1
              have dI := dI.t (by decide) hT1
              have dS := dS.t hT1
              have h7 := (rBI8 7 (by decide)).trans h7
              have hge2 := spF_ge (tx := tx) (n := n) e1
              have hge0 := spF_ge (tx := tx) (n := n) p
              refine ev_n (fr' := (135, [some (vr 111), some (vi len), some (vi (k : Int)), some (vl (wdF tx n (spF tx n p))), none, some (vi 1)], [vi 59, vi (atF tx n (spF tx n e1))])) (S' := MS I8 J6 cc ss) 1 rfl ?_
              refine ev_ic (c := .eq) (off := 14) rfl (by decide) (fun (g6 : (atF tx n (spF tx n e1)) = 59) => ?_) (fun (g6 : ¬ ((atF tx n (spF tx n e1)) = 59)) => ?_)
              · show Ev X k_X4_readSet (149, [some (vr 111), some (vi len), some (vi (k : Int)), some (vl (wdF tx n (spF tx n p))), none, some (vi 1)], []) (MS I8 J6 cc ss) _
                refine ev_n (fr' := (154, [some (vr 111), some (vi len), some (vi (k : Int)), some (vl (wdF tx n (spF tx n p))), none, some (vi 1)], [vi (I8 111 3), vr 111])) (S' := MS I8 J6 cc ss) 3 rfl ?_
                refine ev_eqi (hp) ?_
                show Ev X k_X4_readSet (154, [some (vr 111), some (vi len), some (vi (k : Int)), some (vl (wdF tx n (spF tx n p))), none, some (vi 1)], [vi ((spF tx n e1) : Int), vr 111]) (MS I8 J6 cc ss) _
                refine ev_n (fr' := (155, [some (vr 111), some (vi len), some (vi (k : Int)), some (vl (wdF tx n (spF tx n p))), none, some (vi 1)], [vi 1, vi ((spF tx n e1) : Int), vr 111])) (S' := MS I8 J6 cc ss) 1 rfl ?_
                refine ev_add (z := ((spF tx n e1) : Int) + 1) rfl (by omega) (by omega) (by omega) ?_
                show Ev X k_X4_readSet (156, [some (vr 111), some (vi len), some (vi (k : Int)), some (vl (wdF tx n (spF tx n p))), none, some (vi 1)], [vi (((spF tx n e1) : Int) + 1), vr 111]) (MS I8 J6 cc ss) _
                refine ev_n (fr' := (159, [some (vr 111), some (vi len), some (vi (k : Int)), some (vl (wdF tx n (spF tx n p))), none, some (vi 1)], [])) (S' := MS (up2 I8 111 3 (((spF tx n e1) : Int) + 1)) J6 cc ss) 1 rfl ?_
                refine ev_inc (z := (k : Int) + 1) rfl rfl (by omega) (by omega) (by omega) rfl ?_
                show Ev X k_X4_readSet (162, [some (vr 111), some (vi len), some (vi ((k : Int) + 1)), some (vl (wdF tx n (spF tx n p))), none, some (vi 1)], []) (MS (up2 I8 111 3 (((spF tx n e1) : Int) + 1)) J6 cc ss) _
                refine ev_go (t := 29) rfl (by decide) ?_
                show Ev X k_X4_readSet (29, [some (vr 111), some (vi len), some (vi ((k : Int) + 1)), some (vl (wdF tx n (spF tx n p))), none, some (vi 1)], []) (MS (up2 I8 111 3 (((spF tx n e1) : Int) + 1)) J6 cc ss) _
                obtain ⟨m2, rfl⟩ : ∃ m2, m = m2 + 1 := ⟨m - 1, by omega⟩
                have hne : ¬ n ≤ spF tx n p := fun h => hat (atF_out h)
                have h59 : atF tx n (spF tx n e1) = 59 := g6
                rw [pSet_s hne hst h59]
                have hlt : spF tx n e1 < n := by
                  rcases Nat.lt_or_ge (spF tx n e1) n with h | h
                  · exact h
                  · rw [atF_out h] at h59; omega
                exact lp_set X _ _ cc ss I0 J0 len m2 (k + 1) (by omega) (hT.cell (up2_row _ _ _ _ (by decide)) (up2_row _ _ _ _ (by decide))) ((up2_ne2 _ _ _ _ (by decide)).trans hn) (spF tx n e1 + 1) (by rw [up2_same]; omega) (by omega) (by omega) dS.u (dP.u (by decide)) (dI.u (by decide)) hw ((up2_ne2 _ _ _ _ (by decide)).trans h7) (hO.u (by decide)) _ _
              · show Ev X k_X4_readSet (138, [some (vr 111), some (vi len), some (vi (k : Int)), some (vl (wdF tx n (spF tx n p))), none, some (vi 1)], []) (MS I8 J6 cc ss) _
                refine ev_n (fr' := (145, [some (vr 111), some (vi len), some (vi (k : Int)), some (vl (wdF tx n (spF tx n p))), none, some (vi 1)], [vi (I8 111 3), vi (-2), vr 111])) (S' := MS I8 J6 cc ss) 4 rfl ?_
                refine ev_eqi (hp) ?_
                show Ev X k_X4_readSet (145, [some (vr 111), some (vi len), some (vi (k : Int)), some (vl (wdF tx n (spF tx n p))), none, some (vi 1)], [vi ((spF tx n e1) : Int), vi (-2), vr 111]) (MS I8 J6 cc ss) _
                refine ev_cv rfl rfl rfl ⟨Nat.le_of_ble_eq_true rfl, Nat.le_of_ble_eq_true rfl⟩ (sp_fail X _ _ _ _ (-2) ((spF tx n e1) : Int)) ?_
                show Ev X k_X4_readSet (148, [some (vr 111), some (vi len), some (vi (k : Int)), some (vl (wdF tx n (spF tx n p))), none, some (vi 1)], [vi 0]) (MS (up2 (up2 I8 111 6 (-2)) 111 7 ((spF tx n e1) : Int)) J6 cc ss) _
                refine ev_r rfl rfl rfl ?_
                obtain ⟨m2, rfl⟩ : ∃ m2, m = m2 + 1 := ⟨m - 1, by omega⟩
                have hne : ¬ n ≤ spF tx n p := fun h => hat (atF_out h)
                rw [pSet_no hne hst (by assumption)]
                exact ⟨_, _, _, rfl, rfl, hO.e, rfl, ER.mk⟩
            · have hF := hF0.p (by decide)
              obtain ⟨rfl, hE⟩ := hz9
              have hst : pStm true tx n d (spF tx n p) = .inr (c1, s1) := (pStm_3 (by omega)).trans hr1
              have hO := hO.trans hF
              show Ev X k_X4_readSet (107, [some (vr 111), some (vi len), some (vi (k : Int)), some (vl (wdF tx n (spF tx n p))), none, v5], [vi 0]) (MS I5 J6 cc ss) _
              refine ev_n (fr' := (128, [some (vr 111), some (vi len), some (vi (k : Int)), some (vl (wdF tx n (spF tx n p))), none, some (vi 0)], [vi 0])) (S' := MS I5 J6 cc ss) 5 rfl ?_
              refine ev_r rfl rfl rfl ?_
              obtain ⟨m2, rfl⟩ : ∃ m2, m = m2 + 1 := ⟨m - 1, by omega⟩
              have hne : ¬ n ≤ spF tx n p := fun h => hat (atF_out h)
              rw [pSet_er hne hst]
              exact ⟨_, _, _, rfl, rfl, hO, rfl, hE⟩
        · show Ev X k_X4_readSet (72, [some (vr 111), some (vi len), some (vi (k : Int)), some (vl (wdF tx n (spF tx n p))), none, v5], []) (MS I3 J cc ss) _
          refine ev_n (fr' := (81, [some (vr 111), some (vi len), some (vi (k : Int)), some (vl (wdF tx n (spF tx n p))), none, v5], [vi 1, vr 118, vr 111])) (S' := MS I3 J cc ss) 5 rfl ?_
          refine ev_cz rfl rfl rfl ⟨Nat.le_of_ble_eq_true rfl, Nat.le_of_ble_eq_true rfl⟩ (sp_readRowP X _ _ _ _ (spF tx n p) (d 11).toNat hT hn (leF tx n (spF tx n p)) hp hkn hq4 dP hw.2.1 (by omega)) (fun z1 I8 J9 q10 => ?_)
          obtain ⟨hF0, hz9⟩ := q10
          rcases hr1 : pRP tx n d (d 11).toNat (spF tx n p) (leF tx n (spF tx n p)) with ⟨e1, d1⟩ | ⟨c1, s1⟩ <;> rw [hr1] at hz9
          · have hF := hF0.p (by decide)
            have hst : pStm true tx n d (spF tx n p) = .inl (e1, d1) := (pStm_2 (by omega)).trans hr1
            obtain ⟨rfl, hp, hkn, h71, dP⟩ := hz9
            have hok := pRP_ok hw (by omega) hr1
            have dS := SRep.eqv dS hw.1 (fun k hk => hok.2.2 k (by omega)) (fun a h1 h2 => hF0.1 a (by omega) (by omega) (by omega) (by omega))
            have dI := IRep.eqv dI hw.2.2 (fun k hk => hok.2.2 k (by omega)) (fun a h1 h2 => ⟨hF0.1 a (by omega) (by omega) (by omega) (by omega), hF0.2.2.1 a (by omega)⟩)
            have hn := hF.2.1.trans hn
            have hT := hT.cell (hF.1 112 (by omega) (by decide)) (hF.1 113 (by omega) (by decide))
            have hO := hO.trans hF
            have h7 := h71.trans h7
            have hw := hok.2.1
            show Ev X k_X4_readSet (84, [some (vr 111), some (vi len), some (vi (k : Int)), some (vl (wdF tx n (spF tx n p))), none, v5], [vi 1]) (MS I8 J9 cc ss) _
            refine ev_n (fr' := (130, [some (vr 111), some (vi len), some (vi (k : Int)), some (vl (wdF tx n (spF tx n p))), none, some (vi 1)], [vr 111])) (S' := MS I8 J9 cc ss) 5 rfl ?_
            refine ev_cp rfl rfl rfl ⟨Nat.le_of_ble_eq_true rfl, Nat.le_of_ble_eq_true rfl⟩ (sp_peek X _ _ _ _ hT hn e1 hp hkn) (fun I11 J9 q12 => ?_)
            obtain ⟨rfl, rAI11, rBI11, hp⟩ := q12
            show Ev X k_X4_readSet (133, [some (vr 111), some (vi len), some (vi (k : Int)), some (vl (wdF tx n (spF tx n p))), none, some (vi 1)], [vi (atF tx n (spF tx n e1))]) (MS I11 J9 cc ss) _
            have hn := (rBI11 2 (by decide)).trans hn
            have hT := hT.cell (rAI11 112 (by decide)) (rAI11 113 (by decide))
            have hkn := spF_le (tx := tx) (n := n) e1 hkn
            have hT1 := pk_T rAI11 rBI11
            have hO := hO.trans (hT1.p (J := _))
            have dP := dP.t (by decide) hT1
            have dI := dI.t (by decide) hT1
            have dS := dS.t hT1
            have h7 := (rBI11 7 (by decide)).trans h7
            have hge2 := spF_ge (tx := tx) (n := n) e1
            have hge0 := spF_ge (tx := tx) (n := n) p
            refine ev_n (fr' := (135, [some (vr 111), some (vi len), some (vi (k : Int)), some (vl (wdF tx n (spF tx n p))), none, some (vi 1)], [vi 59, vi (atF tx n (spF tx n e1))])) (S' := MS I11 J9 cc ss) 1 rfl ?_
            refine ev_ic (c := .eq) (off := 14) rfl (by decide) (fun (g6 : (atF tx n (spF tx n e1)) = 59) => ?_) (fun (g6 : ¬ ((atF tx n (spF tx n e1)) = 59)) => ?_)
            · show Ev X k_X4_readSet (149, [some (vr 111), some (vi len), some (vi (k : Int)), some (vl (wdF tx n (spF tx n p))), none, some (vi 1)], []) (MS I11 J9 cc ss) _
              refine ev_n (fr' := (154, [some (vr 111), some (vi len), some (vi (k : Int)), some (vl (wdF tx n (spF tx n p))), none, some (vi 1)], [vi (I11 111 3), vr 111])) (S' := MS I11 J9 cc ss) 3 rfl ?_
              refine ev_eqi (hp) ?_
              show Ev X k_X4_readSet (154, [some (vr 111), some (vi len), some (vi (k : Int)), some (vl (wdF tx n (spF tx n p))), none, some (vi 1)], [vi ((spF tx n e1) : Int), vr 111]) (MS I11 J9 cc ss) _
              refine ev_n (fr' := (155, [some (vr 111), some (vi len), some (vi (k : Int)), some (vl (wdF tx n (spF tx n p))), none, some (vi 1)], [vi 1, vi ((spF tx n e1) : Int), vr 111])) (S' := MS I11 J9 cc ss) 1 rfl ?_
              refine ev_add (z := ((spF tx n e1) : Int) + 1) rfl (by omega) (by omega) (by omega) ?_
              show Ev X k_X4_readSet (156, [some (vr 111), some (vi len), some (vi (k : Int)), some (vl (wdF tx n (spF tx n p))), none, some (vi 1)], [vi (((spF tx n e1) : Int) + 1), vr 111]) (MS I11 J9 cc ss) _
              refine ev_n (fr' := (159, [some (vr 111), some (vi len), some (vi (k : Int)), some (vl (wdF tx n (spF tx n p))), none, some (vi 1)], [])) (S' := MS (up2 I11 111 3 (((spF tx n e1) : Int) + 1)) J9 cc ss) 1 rfl ?_
              refine ev_inc (z := (k : Int) + 1) rfl rfl (by omega) (by omega) (by omega) rfl ?_
              show Ev X k_X4_readSet (162, [some (vr 111), some (vi len), some (vi ((k : Int) + 1)), some (vl (wdF tx n (spF tx n p))), none, some (vi 1)], []) (MS (up2 I11 111 3 (((spF tx n e1) : Int) + 1)) J9 cc ss) _
              refine ev_go (t := 29) rfl (by decide) ?_
              show Ev X k_X4_readSet (29, [some (vr 111), some (vi len), some (vi ((k : Int) + 1)), some (vl (wdF tx n (spF tx n p))), none, some (vi 1)], []) (MS (up2 I11 111 3 (((spF tx n e1) : Int) + 1)) J9 cc ss) _
              obtain ⟨m2, rfl⟩ : ∃ m2, m = m2 + 1 := ⟨m - 1, by omega⟩
              have hne : ¬ n ≤ spF tx n p := fun h => hat (atF_out h)
              have h59 : atF tx n (spF tx n e1) = 59 := g6
              rw [pSet_s hne hst h59]
              have hlt : spF tx n e1 < n := by
                rcases Nat.lt_or_ge (spF tx n e1) n with h | h
                · exact h
                · rw [atF_out h] at h59; omega
              exact lp_set X _ _ cc ss I0 J0 len m2 (k + 1) (by omega) (hT.cell (up2_row _ _ _ _ (by decide)) (up2_row _ _ _ _ (by decide))) ((up2_ne2 _ _ _ _ (by decide)).trans hn) (spF tx n e1 + 1) (by rw [up2_same]; omega) (by omega) (by omega) dS.u (dP.u (by decide)) (dI.u (by decide)) hw ((up2_ne2 _ _ _ _ (by decide)).trans h7) (hO.u (by decide)) _ _
            · show Ev X k_X4_readSet (138, [some (vr 111), some (vi len), some (vi (k : Int)), some (vl (wdF tx n (spF tx n p))), none, some (vi 1)], []) (MS I11 J9 cc ss) _
              refine ev_n (fr' := (145, [some (vr 111), some (vi len), some (vi (k : Int)), some (vl (wdF tx n (spF tx n p))), none, some (vi 1)], [vi (I11 111 3), vi (-2), vr 111])) (S' := MS I11 J9 cc ss) 4 rfl ?_
              refine ev_eqi (hp) ?_
              show Ev X k_X4_readSet (145, [some (vr 111), some (vi len), some (vi (k : Int)), some (vl (wdF tx n (spF tx n p))), none, some (vi 1)], [vi ((spF tx n e1) : Int), vi (-2), vr 111]) (MS I11 J9 cc ss) _
              refine ev_cv rfl rfl rfl ⟨Nat.le_of_ble_eq_true rfl, Nat.le_of_ble_eq_true rfl⟩ (sp_fail X _ _ _ _ (-2) ((spF tx n e1) : Int)) ?_
              show Ev X k_X4_readSet (148, [some (vr 111), some (vi len), some (vi (k : Int)), some (vl (wdF tx n (spF tx n p))), none, some (vi 1)], [vi 0]) (MS (up2 (up2 I11 111 6 (-2)) 111 7 ((spF tx n e1) : Int)) J9 cc ss) _
              refine ev_r rfl rfl rfl ?_
              obtain ⟨m2, rfl⟩ : ∃ m2, m = m2 + 1 := ⟨m - 1, by omega⟩
              have hne : ¬ n ≤ spF tx n p := fun h => hat (atF_out h)
              rw [pSet_no hne hst (by assumption)]
              exact ⟨_, _, _, rfl, rfl, hO.e, rfl, ER.mk⟩
          · have hF := hF0.p (by decide)
            obtain ⟨rfl, hE⟩ := hz9
            have hst : pStm true tx n d (spF tx n p) = .inr (c1, s1) := (pStm_2 (by omega)).trans hr1
            have hO := hO.trans hF
            show Ev X k_X4_readSet (84, [some (vr 111), some (vi len), some (vi (k : Int)), some (vl (wdF tx n (spF tx n p))), none, v5], [vi 0]) (MS I8 J9 cc ss) _
            refine ev_n (fr' := (128, [some (vr 111), some (vi len), some (vi (k : Int)), some (vl (wdF tx n (spF tx n p))), none, some (vi 0)], [vi 0])) (S' := MS I8 J9 cc ss) 5 rfl ?_
            refine ev_r rfl rfl rfl ?_
            obtain ⟨m2, rfl⟩ : ∃ m2, m = m2 + 1 := ⟨m - 1, by omega⟩
            have hne : ¬ n ≤ spF tx n p := fun h => hat (atF_out h)
            rw [pSet_er hne hst]
            exact ⟨_, _, _, rfl, rfl, hO, rfl, hE⟩
      · show Ev X k_X4_readSet (57, [some (vr 111), some (vi len), some (vi (k : Int)), some (vl (wdF tx n (spF tx n p))), none, v5], []) (MS I3 J cc ss) _
        refine ev_n (fr' := (58, [some (vr 111), some (vi len), some (vi (k : Int)), some (vl (wdF tx n (spF tx n p))), none, v5], [vr 111])) (S' := MS I3 J cc ss) 1 rfl ?_
        refine ev_cz rfl rfl rfl ⟨Nat.le_of_ble_eq_true rfl, Nat.le_of_ble_eq_true rfl⟩ (sp_readSize X _ _ _ _ (spF tx n p) (d 0).toNat hT hn (leF tx n (spF tx n p)) hp hkn hq4 dS hw.1 (by omega)) (fun z1 I11 J q12 => ?_)
        obtain ⟨rfl, hF0, hz9⟩ := q12
        rcases hr1 : pSz true tx n d (spF tx n p) (leF tx n (spF tx n p)) with ⟨e1, d1⟩ | ⟨c1, s1⟩ <;> rw [hr1] at hz9
        · have hF := hF0.p (J := J)
          have hst : pStm true tx n d (spF tx n p) = .inl (e1, d1) := (pStm_1 (by omega)).trans hr1
          obtain ⟨rfl, hp, hkn, h71, dS⟩ := hz9
          have hok := pSz_ok hw hr1
          have dP := PRep.eqv dP hw.2.1 (fun k hk => hok.2.2 k (by omega)) (fun a h1 h2 => ⟨hF0.1 a (by omega) (by omega) (by omega) (by omega), rfl⟩)
          have dI := IRep.eqv dI hw.2.2 (fun k hk => hok.2.2 k (by omega)) (fun a h1 h2 => ⟨hF0.1 a (by omega) (by omega) (by omega) (by omega), rfl⟩)
          have hn := hF.2.1.trans hn
          have hT := hT.cell (hF.1 112 (by omega) (by decide)) (hF.1 113 (by omega) (by decide))
          have hO := hO.trans hF
          have h7 := h71.trans h7
          have hw := hok.2.1
          show Ev X k_X4_readSet (61, [some (vr 111), some (vi len), some (vi (k : Int)), some (vl (wdF tx n (spF tx n p))), none, v5], [vi 1]) (MS I11 J cc ss) _
          refine ev_n (fr' := (130, [some (vr 111), some (vi len), some (vi (k : Int)), some (vl (wdF tx n (spF tx n p))), none, some (vi 1)], [vr 111])) (S' := MS I11 J cc ss) 5 rfl ?_
          refine ev_cp rfl rfl rfl ⟨Nat.le_of_ble_eq_true rfl, Nat.le_of_ble_eq_true rfl⟩ (sp_peek X _ _ _ _ hT hn e1 hp hkn) (fun I13 J q14 => ?_)
          obtain ⟨rfl, rAI13, rBI13, hp⟩ := q14
          show Ev X k_X4_readSet (133, [some (vr 111), some (vi len), some (vi (k : Int)), some (vl (wdF tx n (spF tx n p))), none, some (vi 1)], [vi (atF tx n (spF tx n e1))]) (MS I13 J cc ss) _
          have hn := (rBI13 2 (by decide)).trans hn
          have hT := hT.cell (rAI13 112 (by decide)) (rAI13 113 (by decide))
          have hkn := spF_le (tx := tx) (n := n) e1 hkn
          have hT1 := pk_T rAI13 rBI13
          have hO := hO.trans (hT1.p (J := _))
          have dP := dP.t (by decide) hT1
          have dI := dI.t (by decide) hT1
          have dS := dS.t hT1
          have h7 := (rBI13 7 (by decide)).trans h7
          have hge2 := spF_ge (tx := tx) (n := n) e1
          have hge0 := spF_ge (tx := tx) (n := n) p
          refine ev_n (fr' := (135, [some (vr 111), some (vi len), some (vi (k : Int)), some (vl (wdF tx n (spF tx n p))), none, some (vi 1)], [vi 59, vi (atF tx n (spF tx n e1))])) (S' := MS I13 J cc ss) 1 rfl ?_
          refine ev_ic (c := .eq) (off := 14) rfl (by decide) (fun (g6 : (atF tx n (spF tx n e1)) = 59) => ?_) (fun (g6 : ¬ ((atF tx n (spF tx n e1)) = 59)) => ?_)
          · show Ev X k_X4_readSet (149, [some (vr 111), some (vi len), some (vi (k : Int)), some (vl (wdF tx n (spF tx n p))), none, some (vi 1)], []) (MS I13 J cc ss) _
            refine ev_n (fr' := (154, [some (vr 111), some (vi len), some (vi (k : Int)), some (vl (wdF tx n (spF tx n p))), none, some (vi 1)], [vi (I13 111 3), vr 111])) (S' := MS I13 J cc ss) 3 rfl ?_
            refine ev_eqi (hp) ?_
            show Ev X k_X4_readSet (154, [some (vr 111), some (vi len), some (vi (k : Int)), some (vl (wdF tx n (spF tx n p))), none, some (vi 1)], [vi ((spF tx n e1) : Int), vr 111]) (MS I13 J cc ss) _
            refine ev_n (fr' := (155, [some (vr 111), some (vi len), some (vi (k : Int)), some (vl (wdF tx n (spF tx n p))), none, some (vi 1)], [vi 1, vi ((spF tx n e1) : Int), vr 111])) (S' := MS I13 J cc ss) 1 rfl ?_
            refine ev_add (z := ((spF tx n e1) : Int) + 1) rfl (by omega) (by omega) (by omega) ?_
            show Ev X k_X4_readSet (156, [some (vr 111), some (vi len), some (vi (k : Int)), some (vl (wdF tx n (spF tx n p))), none, some (vi 1)], [vi (((spF tx n e1) : Int) + 1), vr 111]) (MS I13 J cc ss) _
            refine ev_n (fr' := (159, [some (vr 111), some (vi len), some (vi (k : Int)), some (vl (wdF tx n (spF tx n p))), none, some (vi 1)], [])) (S' := MS (up2 I13 111 3 (((spF tx n e1) : Int) + 1)) J cc ss) 1 rfl ?_
            refine ev_inc (z := (k : Int) + 1) rfl rfl (by omega) (by omega) (by omega) rfl ?_
            show Ev X k_X4_readSet (162, [some (vr 111), some (vi len), some (vi ((k : Int) + 1)), some (vl (wdF tx n (spF tx n p))), none, some (vi 1)], []) (MS (up2 I13 111 3 (((spF tx n e1) : Int) + 1)) J cc ss) _
            refine ev_go (t := 29) rfl (by decide) ?_
            show Ev X k_X4_readSet (29, [some (vr 111), some (vi len), some (vi ((k : Int) + 1)), some (vl (wdF tx n (spF tx n p))), none, some (vi 1)], []) (MS (up2 I13 111 3 (((spF tx n e1) : Int) + 1)) J cc ss) _
            obtain ⟨m2, rfl⟩ : ∃ m2, m = m2 + 1 := ⟨m - 1, by omega⟩
            have hne : ¬ n ≤ spF tx n p := fun h => hat (atF_out h)
            have h59 : atF tx n (spF tx n e1) = 59 := g6
            rw [pSet_s hne hst h59]
            have hlt : spF tx n e1 < n := by
              rcases Nat.lt_or_ge (spF tx n e1) n with h | h
              · exact h
              · rw [atF_out h] at h59; omega
            exact lp_set X _ _ cc ss I0 J0 len m2 (k + 1) (by omega) (hT.cell (up2_row _ _ _ _ (by decide)) (up2_row _ _ _ _ (by decide))) ((up2_ne2 _ _ _ _ (by decide)).trans hn) (spF tx n e1 + 1) (by rw [up2_same]; omega) (by omega) (by omega) dS.u (dP.u (by decide)) (dI.u (by decide)) hw ((up2_ne2 _ _ _ _ (by decide)).trans h7) (hO.u (by decide)) _ _
          · show Ev X k_X4_readSet (138, [some (vr 111), some (vi len), some (vi (k : Int)), some (vl (wdF tx n (spF tx n p))), none, some (vi 1)], []) (MS I13 J cc ss) _
            refine ev_n (fr' := (145, [some (vr 111), some (vi len), some (vi (k : Int)), some (vl (wdF tx n (spF tx n p))), none, some (vi 1)], [vi (I13 111 3), vi (-2), vr 111])) (S' := MS I13 J cc ss) 4 rfl ?_
            refine ev_eqi (hp) ?_
            show Ev X k_X4_readSet (145, [some (vr 111), some (vi len), some (vi (k : Int)), some (vl (wdF tx n (spF tx n p))), none, some (vi 1)], [vi ((spF tx n e1) : Int), vi (-2), vr 111]) (MS I13 J cc ss) _
            refine ev_cv rfl rfl rfl ⟨Nat.le_of_ble_eq_true rfl, Nat.le_of_ble_eq_true rfl⟩ (sp_fail X _ _ _ _ (-2) ((spF tx n e1) : Int)) ?_
            show Ev X k_X4_readSet (148, [some (vr 111), some (vi len), some (vi (k : Int)), some (vl (wdF tx n (spF tx n p))), none, some (vi 1)], [vi 0]) (MS (up2 (up2 I13 111 6 (-2)) 111 7 ((spF tx n e1) : Int)) J cc ss) _
            refine ev_r rfl rfl rfl ?_
            obtain ⟨m2, rfl⟩ : ∃ m2, m = m2 + 1 := ⟨m - 1, by omega⟩
            have hne : ¬ n ≤ spF tx n p := fun h => hat (atF_out h)
            rw [pSet_no hne hst (by assumption)]
            exact ⟨_, _, _, rfl, rfl, hO.e, rfl, ER.mk⟩
        · have hF := hF0.p (J := J)
          obtain ⟨rfl, hE⟩ := hz9
          have hst : pStm true tx n d (spF tx n p) = .inr (c1, s1) := (pStm_1 (by omega)).trans hr1
          have hO := hO.trans hF
          show Ev X k_X4_readSet (61, [some (vr 111), some (vi len), some (vi (k : Int)), some (vl (wdF tx n (spF tx n p))), none, v5], [vi 0]) (MS I11 J cc ss) _
          refine ev_n (fr' := (128, [some (vr 111), some (vi len), some (vi (k : Int)), some (vl (wdF tx n (spF tx n p))), none, some (vi 0)], [vi 0])) (S' := MS I11 J cc ss) 5 rfl ?_
          refine ev_r rfl rfl rfl ?_
          obtain ⟨m2, rfl⟩ : ∃ m2, m = m2 + 1 := ⟨m - 1, by omega⟩
          have hne : ¬ n ≤ spF tx n p := fun h => hat (atF_out h)
          rw [pSet_er hne hst]
          exact ⟨_, _, _, rfl, rfl, hO, rfl, hE⟩
termination_by m
decreasing_by all_goals omega
