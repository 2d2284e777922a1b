/-! THE REFERENCE reads sizes (printed by gen/g98d.py) -/
/-- the end of a statement, and what becomes of its row -/
def finP (tx : F1) (n : Nat) (f : F1 → F1) : (Nat × F1) ⊕ (Int × Nat) → (Nat × F1) ⊕ (Int × Nat)
  | .inr x => .inr x
  | .inl (q, d') => if atF tx n (spF tx n q) = 59 then .inl (spF tx n q + 1, f d') else .inr (-2, spF tx n q)
theorem fin_1 {tx : F1} {n q : Nat} {f : F1 → F1} {d : F1} (h : atF tx n (spF tx n q) = 59) : finP tx n f (.inl (q, d)) = .inl (spF tx n q + 1, f d) := if_pos h
theorem fin_0 {tx : F1} {n q : Nat} {f : F1 → F1} {d : F1} (h : ¬ atF tx n (spF tx n q) = 59) : finP tx n f (.inl (q, d)) = .inr (-2, spF tx n q) := if_neg h
theorem pnU_nu {tx : F1} {n s e : Nat} {lo hi v : Int} (h : pnU tx n false lo hi s = .inl (e, v)) : v = nuF tx s (diF tx n s - s) ∧ s < n ∧ isDi (tx s) = true := by
  have h0 := pnU_ok h
  refine ⟨?_, ?_⟩
  · unfold pnU at h
    rw [if_neg (by omega), sgF_f] at h
    split at h
    · cases h; rfl
    · cases h
  · rcases Nat.lt_or_ge s n with q | q
    · refine ⟨q, ?_⟩
      cases hb : isDi (tx s)
      · exact absurd (diF_not (n := n) (Or.inr hb)) (by omega)
      · rfl
    · exact absurd (diF_not (tx := tx) (Or.inl q)) (by omega)
theorem TK.c {I J J' : F2} {tx : F1} {n a : Nat} (h : TK I J tx n a) (e : J' 135 = J 135) : TK I J' tx n a := ⟨h.1, h.2.1, h.2.2.1, h.2.2.2.1, h.2.2.2.2.1, fun q => by rw [e]; exact h.2.2.2.2.2 q⟩
theorem pSz_dup {st : Bool} {tx : F1} {n a p : Nat} {d : F1} {z : Int} (h5 : ¬ 5 ≤ d 0) (hk : spF tx n p < n ∧ isDi (tx (spF tx n p)) = true) (hz : nOK z (nuF tx (spF tx n p) (diF tx n (spF tx n p) - spF tx n p))) (hs : 0 ≤ szF d z) : pSz st tx n d a p = .inr (-3, spF tx n p) := by
  have h1 := diF_lt hk.1 hk.2
  have h2 := nu_pos (tx := tx) (n := n) (s := spF tx n p)
  have hF : pnF tx n 4 32 p = pnU tx n false 4 32 (spF tx n p) := pnF_tok (by decide)
  by_cases hr : 4 ≤ nuF tx (spF tx n p) (diF tx n (spF tx n p) - spF tx n p) ∧ nuF tx (spF tx n p) (diF tx n (spF tx n p) - spF tx n p) ≤ 32
  · have hU : pnU tx n false 4 32 (spF tx n p) = .inl (diF tx n (spF tx n p), nuF tx (spF tx n p) (diF tx n (spF tx n p) - spF tx n p)) := by
      unfold pnU; rw [if_neg (by omega), sgF_f, if_pos hr]
    rw [pSz_1 h5 (hF.trans hU)]
    have hzz : z = nuF tx (spF tx n p) (diF tx n (spF tx n p) - spF tx n p) := by have := hz.2.2; omega
    unfold pSz2
    rw [if_pos (by rw [← hzz]; omega)]
  · have hU : pnU tx n false 4 32 (spF tx n p) = .inr (-3, spF tx n p) := by
      unfold pnU; rw [if_neg (by omega), sgF_f, if_neg hr]
    unfold pSz; rw [if_neg h5, hF, hU]
theorem sp_readsSize (X : AX) (I J : Nat → Nat → Int) (cc ss : Nat) {tx : F1} {n : Nat} (hR : RB I tx n) (a : Nat) (hK : TK I J tx n a) (hw0 : I 135 11 = 0) (hz : wdF tx n a = 632645) {d : F1} (hd : J 137 = d) (hws : WS d) (s : Nat) (hd0 : d 0 = (s : Int)) : Ev X k_X9_readsSize (0, [some (vr 135), none, none, none], []) (MS I J cc ss) (PV cc ss none (fun I' J' => RS I I' J J' tx n (finP tx n (fun d => d) (pSz false tx n d a (leF tx n a))))) := by
  have ha := hK.1
  have hO := onlyF.refl I J
  have hws1 := hws.2.1
  have hnz : wdF tx n a ≠ 0 := by omega
  have hw92 := hw0
  refine ev_n (fr' := (5, [some (vr 135), none, none, none], [vi 0, vr 137])) (S' := MS I J cc ss) 3 rfl ?_
  refine ev_laN (j := 0) (z := (d 0)) rfl rfl (by omega) (by omega) (congrFun hd _) ?_
  show Ev X k_X9_readsSize (6, [some (vr 135), none, none, none], [vl (d 0)]) (MS I J cc ss) _
  refine ev_n (fr' := (9, [some (vr 135), none, none, none], [vl 5, vl (d 0)])) (S' := MS I J cc ss) 1 rfl ?_
  refine ev_lc (c := .ne) (off := 9) rfl rfl (by decide) (fun (g1 : (d 0) ≠ 5) => ?_) (fun (g1 : ¬ ((d 0) ≠ 5)) => ?_)
  · show Ev X k_X9_readsSize (19, [some (vr 135), none, none, none], []) (MS I J cc ss) _
    refine ev_n (fr' := (23, [some (vr 135), none, none, none], [vr 1000100, vr 135, vr 135])) (S' := MS I J cc ss) 3 rfl ?_
    refine ev_cv rfl rfl rfl ⟨Nat.le_of_ble_eq_true rfl, Nat.le_of_ble_eq_true rfl⟩ (sp_isWord_0 X _ _ _ _ hR a hK hw0) ?_
    show Ev X k_X9_readsSize (26, [some (vr 135), none, none, none], [vi (if wdF tx n a = 632645 then 1 else 0), vr 135]) (MS I J cc ss) _
    refine ev_s1 _ (hz) ?_
    show Ev X k_X9_readsSize (26, [some (vr 135), none, none, none], [vi 1, vr 135]) (MS I J cc ss) _
    refine ev_cp rfl rfl rfl ⟨Nat.le_of_ble_eq_true rfl, Nat.le_of_ble_eq_true rfl⟩ (sp_mustT X _ _ _ _ hR a hK hw0) (fun I1 J2 q3 => ?_)
    obtain ⟨hK, hO9, hw0⟩ := q3
    show Ev X k_X9_readsSize (29, [some (vr 135), none, none, none], []) (MS I1 J2 cc ss) _
    rw [en_0 (wd_kd hnz).1] at hK
    have hR := hR.l hO9
    have hO := hO.trans hO9.f
    have hd := (hO9.2.2 137 (by decide)).trans hd
    have hKb := hK
    obtain ⟨v, hv⟩ : ∃ v, J2 135 14 = v := ⟨_, rfl⟩
    refine ev_n (fr' := (33, [some (vr 135), none, none, none], [vi (I1 135 11)])) (S' := MS I1 J2 cc ss) 2 rfl ?_
    refine ev_eqi (hw0) ?_
    show Ev X k_X9_readsSize (33, [some (vr 135), none, none, none], [vi 0]) (MS I1 J2 cc ss) _
    refine ev_n (fr' := (40, [some (vr 135), none, none, none], [vi (I1 135 10)])) (S' := MS I1 J2 cc ss) 3 rfl ?_
    refine ev_eqi (hK.2.2.2.2.1) ?_
    show Ev X k_X9_readsSize (40, [some (vr 135), none, none, none], [vi (kdF tx n (spF tx n (leF tx n a)))]) (MS I1 J2 cc ss) _
    refine ev_n (fr' := (41, [some (vr 135), none, none, none], [vi 1, vi (kdF tx n (spF tx n (leF tx n a)))])) (S' := MS I1 J2 cc ss) 1 rfl ?_
    refine ev_ic (c := .ne) (off := 24) rfl (by decide) (fun (g2 : (kdF tx n (spF tx n (leF tx n a))) ≠ 1) => ?_) (fun (g2 : ¬ ((kdF tx n (spF tx n (leF tx n a))) ≠ 1)) => ?_)
    · show Ev X k_X9_readsSize (65, [some (vr 135), none, none, none], []) (MS I1 J2 cc ss) _
      refine ev_n (fr' := (69, [some (vr 135), none, none, none], [vi 32, vi 4, vr 135])) (S' := MS I1 J2 cc ss) 3 rfl ?_
      refine ev_cz rfl rfl rfl ⟨Nat.le_of_ble_eq_true rfl, Nat.le_of_ble_eq_true rfl⟩ (sp_takes X _ _ _ _ hR (spF tx n (leF tx n a)) hK hw0 4 32 (by omega)) (fun z1 I4 J5 q6 => ?_)
      obtain ⟨hO9, hz9⟩ := q6
      rcases hr1 : pnU tx n false 4 32 (spF tx n (leF tx n a)) with ⟨e1, v1⟩ | ⟨c1, s1⟩ <;> rw [hr1] at hz9
      · obtain ⟨hzv, hK, hw0, hen1⟩ := hz9
        subst z1
        have hR := hR.l hO9
        have hpn1 := pnU_ok hr1
        have hO := hO.trans hO9.f
        have hd := (hO9.2.2 137 (by decide)).trans hd
        have hpF : pnF tx n 4 32 (leF tx n a) = .inl (e1, v1) := (pnF_tok (by decide)).trans hr1
        have hx9 := pnF_rng hpF
        have hnu := pnU_nu hr1
        have hkd1 := kd_1.mpr hnu.2
        show Ev X k_X9_readsSize (72, [some (vr 135), none, none, none], [vi v1]) (MS I4 J5 cc ss) _
        refine ev_n (fr' := (78, [some (vr 135), some (vi v1), some (vi 0), none], [vr 1000101, vr 135])) (S' := MS I4 J5 cc ss) 5 rfl ?_
        refine ev_cv rfl rfl rfl ⟨Nat.le_of_ble_eq_true rfl, Nat.le_of_ble_eq_true rfl⟩ (sp_isWord_1 X _ _ _ _ hR (spF tx n e1) hK hw0) ?_
        show Ev X k_X9_readsSize (81, [some (vr 135), some (vi v1), some (vi 0), none], [vi (if wdF tx n (spF tx n e1) = 6050369 then 1 else 0)]) (MS I4 J5 cc ss) _
        refine ev_beq _ rfl (by decide) (fun (g3 : ¬ (wdF tx n (spF tx n e1) = 6050369)) => ?_) (fun (g3 : wdF tx n (spF tx n e1) = 6050369) => ?_)
        · show Ev X k_X9_readsSize (95, [some (vr 135), some (vi v1), some (vi 0), none], []) (MS I4 J5 cc ss) _
          have hnx : ¬ wdF tx n (spF tx n e1) = 6050369 := g3
          refine ev_n (fr' := (99, [some (vr 135), some (vi v1), some (vi 0), none], [vi 59, vr 135, vr 135])) (S' := MS I4 J5 cc ss) 3 rfl ?_
          refine ev_cv rfl rfl rfl ⟨Nat.le_of_ble_eq_true rfl, Nat.le_of_ble_eq_true rfl⟩ (sp_isSign X _ _ _ _ hR (spF tx n e1) hK hw0 59 (by decide) (by decide) (by decide)) ?_
          show Ev X k_X9_readsSize (102, [some (vr 135), some (vi v1), some (vi 0), none], [vi (if atF tx n (spF tx n e1) = 59 then 1 else 0), vr 135]) (MS I4 J5 cc ss) _
          refine ev_sp _ (fun (g4 : atF tx n (spF tx n e1) = 59) => ?_) (fun (g4 : ¬ (atF tx n (spF tx n e1) = 59)) => ?_)
          · show Ev X k_X9_readsSize (102, [some (vr 135), some (vi v1), some (vi 0), none], [vi 1, vr 135]) (MS I4 J5 cc ss) _
            refine ev_cp rfl rfl rfl ⟨Nat.le_of_ble_eq_true rfl, Nat.le_of_ble_eq_true rfl⟩ (sp_mustT X _ _ _ _ hR (spF tx n e1) hK hw0) (fun I7 J8 q9 => ?_)
            obtain ⟨hK, hO9, hw0⟩ := q9
            show Ev X k_X9_readsSize (105, [some (vr 135), some (vi v1), some (vi 0), none], []) (MS I7 J8 cc ss) _
            have h59 := g4
            have hsg := (sg_at (c := 59) (by decide) (by decide) (by decide)).mp h59
            have hlt := (kd_2.mp hsg.1).1
            rw [en_2 (kd_2.mp hsg.1)] at hK
            have hR := hR.l hO9
            have hO := hO.trans hO9.f
            have hd := (hO9.2.2 137 (by decide)).trans hd
            refine ev_n (fr' := (109, [some (vr 135), some (vi v1), some (vi 0), none], [vi (I7 135 11)])) (S' := MS I7 J8 cc ss) 2 rfl ?_
            refine ev_eqi (hw0) ?_
            show Ev X k_X9_readsSize (109, [some (vr 135), some (vi v1), some (vi 0), none], [vi 0]) (MS I7 J8 cc ss) _
            refine ev_n (fr' := (118, [some (vr 135), some (vi v1), some (vi 0), none], [vi 0, vi v1, vr 137])) (S' := MS I7 J8 cc ss) 5 rfl ?_
            refine ev_cz rfl rfl rfl ⟨Nat.le_of_ble_eq_true rfl, Nat.le_of_ble_eq_true rfl⟩ (sp_putsSize_137 X _ _ _ _ hd s v1 0 hd0 (by omega) (by omega) (by omega)) (fun z9 I7 J10 q11 => ?_)
            obtain ⟨rfl, r137, pl, hpl, hp1, hp2, hp3, hd9⟩ := q11
            show Ev X k_X9_readsSize (121, [some (vr 135), some (vi v1), some (vi 0), none], [vi z9]) (MS I7 J10 cc ss) _
            have hIE : insF d pl s v1 0 = insE d v1 0 := by unfold insE; rw [show (d 0).toNat = s by omega, plE_eq hp1 hp2 hp3]
            rw [hIE] at hd9
            refine ev_n (fr' := (122, [some (vr 135), some (vi v1), some (vi 0), some (vi z9)], [])) (S' := MS I7 J10 cc ss) 1 rfl ?_
            refine ev_r rfl rfl rfl ?_
            have hnd : ¬ szF d v1 ≠ -1 := by
              have hno9 := (hKb.2.2.2.2.2 hkd1).2.2
              rw [hv] at hno9
              have hv9 : v = v1 := by omega
              have hfr := fnd_rng (fun r => d (2 * r + 1)) v1 (d 0).toNat 0
              first
                | exact absurd hkd1 (by assumption)
                | (have h99 : ¬ 0 ≤ szF d v1 := by rw [← hv9]; assumption
                   rcases hfr with q | ⟨k, k1, k2, k3, k4⟩
                   · exact fun h => h q
                   · exact absurd (show 0 ≤ szF d v1 by show 0 ≤ fnd (fun r => d (2 * r + 1)) v1 (d 0).toNat 0; omega) h99)
            have hX0 : pSz false tx n d a (leF tx n a) = pSz2 false tx n d v1 e1 (leF tx n a) := pSz_1 (by omega) hpF
            have hX : pSz2 false tx n d v1 e1 (leF tx n a) = .inl ((spF tx n e1), insE d v1 0) := by
              unfold pSz2; rw [if_neg hnd]
              by_cases hk9 : kdF tx n (spF tx n e1) = 0
              · rw [if_pos hk9, if_neg hnx, if_neg (by decide)]
              · rw [if_neg hk9]
            rw [hX0, hX]
            rw [fin_1 (by rw [spF_idem]; assumption), spF_idem]
            exact ⟨_, _, rfl, rfl, ⟨hO.1, hO.2.1, fun a ha hb => (r137 a hb).trans (hO.2.2 a ha hb)⟩, hK.c (r137 135 (by decide)), hw0, hd9, by omega⟩
          · show Ev X k_X9_readsSize (102, [some (vr 135), some (vi v1), some (vi 0), none], [vi 0, vr 135]) (MS I4 J5 cc ss) _
            refine ev_cv rfl rfl rfl ⟨Nat.le_of_ble_eq_true rfl, Nat.le_of_ble_eq_true rfl⟩ (sp_mustF X _ _ _ _ (spF tx n e1) hw0 hK.2.2.1) ?_
            show Ev X k_X9_readsSize (105, [some (vr 135), some (vi v1), some (vi 0), none], []) (MS (up2 (up2 I4 135 11 (-2)) 135 12 (spF tx n e1 : Int)) J5 cc ss) _
            have hwE : (up2 (up2 I4 135 11 (-2)) 135 12 (spF tx n e1 : Int)) 135 11 ≠ 0 := EE.ne (EE.mk (by decide))
            refine ev_n (fr' := (122, [some (vr 135), some (vi v1), some (vi 0), none], [])) (S' := MS (up2 (up2 I4 135 11 (-2)) 135 12 (spF tx n e1 : Int)) J5 cc ss) 3 rfl ?_
            refine ev_r rfl rfl rfl ?_
            have hnd : ¬ szF d v1 ≠ -1 := by
              have hno9 := (hKb.2.2.2.2.2 hkd1).2.2
              rw [hv] at hno9
              have hv9 : v = v1 := by omega
              have hfr := fnd_rng (fun r => d (2 * r + 1)) v1 (d 0).toNat 0
              first
                | exact absurd hkd1 (by assumption)
                | (have h99 : ¬ 0 ≤ szF d v1 := by rw [← hv9]; assumption
                   rcases hfr with q | ⟨k, k1, k2, k3, k4⟩
                   · exact fun h => h q
                   · exact absurd (show 0 ≤ szF d v1 by show 0 ≤ fnd (fun r => d (2 * r + 1)) v1 (d 0).toNat 0; omega) h99)
            have hX0 : pSz false tx n d a (leF tx n a) = pSz2 false tx n d v1 e1 (leF tx n a) := pSz_1 (by omega) hpF
            have hX : pSz2 false tx n d v1 e1 (leF tx n a) = .inl ((spF tx n e1), insE d v1 0) := by
              unfold pSz2; rw [if_neg hnd]
              by_cases hk9 : kdF tx n (spF tx n e1) = 0
              · rw [if_pos hk9, if_neg hnx, if_neg (by decide)]
              · rw [if_neg hk9]
            rw [hX0, hX]
            rw [fin_0 (by rw [spF_idem]; assumption), spF_idem]
            exact ⟨_, _, rfl, rfl, hO.e, EE.mk (by decide)⟩
        · show Ev X k_X9_readsSize (84, [some (vr 135), some (vi v1), some (vi 0), none], []) (MS I4 J5 cc ss) _
          refine ev_n (fr' := (86, [some (vr 135), some (vi v1), some (vi 0), none], [vi 1, vr 135])) (S' := MS I4 J5 cc ss) 2 rfl ?_
          refine ev_cp rfl rfl rfl ⟨Nat.le_of_ble_eq_true rfl, Nat.le_of_ble_eq_true rfl⟩ (sp_mustT X _ _ _ _ hR (spF tx n e1) hK hw0) (fun I12 J13 q14 => ?_)
          obtain ⟨hK, hO9, hw0⟩ := q14
          show Ev X k_X9_readsSize (89, [some (vr 135), some (vi v1), some (vi 0), none], []) (MS I12 J13 cc ss) _
          have hxz : wdF tx n (spF tx n e1) ≠ 0 := by omega
          rw [en_0 (wd_kd hxz).1] at hK
          have hR := hR.l hO9
          have hO := hO.trans hO9.f
          have hd := (hO9.2.2 137 (by decide)).trans hd
          refine ev_n (fr' := (91, [some (vr 135), some (vi v1), some (vi 0), none], [vi 2, vr 135])) (S' := MS I12 J13 cc ss) 2 rfl ?_
          refine ev_cz rfl rfl rfl ⟨Nat.le_of_ble_eq_true rfl, Nat.le_of_ble_eq_true rfl⟩ (sp_takesSigned X _ _ _ _ hR (spF tx n (leF tx n (spF tx n e1))) hK hw0 2 (by omega)) (fun z2 I15 J16 q17 => ?_)
          obtain ⟨hO9, hz9⟩ := q17
          rw [pnF_sp] at hz9
          rcases hr2 : pnF tx n (-2) 2 ((leF tx n (spF tx n e1))) with ⟨e2, v2⟩ | ⟨c2, s2⟩ <;> rw [hr2] at hz9
          · obtain ⟨hzv, hK, hw0, hen2⟩ := hz9
            subst z2
            have hR := hR.l hO9
            have hpr2 := pnF_rng hr2
            have hO := hO.trans hO9.f
            have hd := (hO9.2.2 137 (by decide)).trans hd
            show Ev X k_X9_readsSize (94, [some (vr 135), some (vi v1), some (vi 0), none], [vi v2]) (MS I15 J16 cc ss) _
            refine ev_n (fr' := (95, [some (vr 135), some (vi v1), some (vi v2), none], [])) (S' := MS I15 J16 cc ss) 1 rfl ?_
            refine ev_n (fr' := (99, [some (vr 135), some (vi v1), some (vi v2), none], [vi 59, vr 135, vr 135])) (S' := MS I15 J16 cc ss) 3 rfl ?_
            refine ev_cv rfl rfl rfl ⟨Nat.le_of_ble_eq_true rfl, Nat.le_of_ble_eq_true rfl⟩ (sp_isSign X _ _ _ _ hR (spF tx n e2) hK hw0 59 (by decide) (by decide) (by decide)) ?_
            show Ev X k_X9_readsSize (102, [some (vr 135), some (vi v1), some (vi v2), none], [vi (if atF tx n (spF tx n e2) = 59 then 1 else 0), vr 135]) (MS I15 J16 cc ss) _
            refine ev_sp _ (fun (g5 : atF tx n (spF tx n e2) = 59) => ?_) (fun (g5 : ¬ (atF tx n (spF tx n e2) = 59)) => ?_)
            · show Ev X k_X9_readsSize (102, [some (vr 135), some (vi v1), some (vi v2), none], [vi 1, vr 135]) (MS I15 J16 cc ss) _
              refine ev_cp rfl rfl rfl ⟨Nat.le_of_ble_eq_true rfl, Nat.le_of_ble_eq_true rfl⟩ (sp_mustT X _ _ _ _ hR (spF tx n e2) hK hw0) (fun I18 J19 q20 => ?_)
              obtain ⟨hK, hO9, hw0⟩ := q20
              show Ev X k_X9_readsSize (105, [some (vr 135), some (vi v1), some (vi v2), none], []) (MS I18 J19 cc ss) _
              have h59 := g5
              have hsg := (sg_at (c := 59) (by decide) (by decide) (by decide)).mp h59
              have hlt := (kd_2.mp hsg.1).1
              rw [en_2 (kd_2.mp hsg.1)] at hK
              have hR := hR.l hO9
              have hO := hO.trans hO9.f
              have hd := (hO9.2.2 137 (by decide)).trans hd
              refine ev_n (fr' := (109, [some (vr 135), some (vi v1), some (vi v2), none], [vi (I18 135 11)])) (S' := MS I18 J19 cc ss) 2 rfl ?_
              refine ev_eqi (hw0) ?_
              show Ev X k_X9_readsSize (109, [some (vr 135), some (vi v1), some (vi v2), none], [vi 0]) (MS I18 J19 cc ss) _
              refine ev_n (fr' := (118, [some (vr 135), some (vi v1), some (vi v2), none], [vi v2, vi v1, vr 137])) (S' := MS I18 J19 cc ss) 5 rfl ?_
              refine ev_cz rfl rfl rfl ⟨Nat.le_of_ble_eq_true rfl, Nat.le_of_ble_eq_true rfl⟩ (sp_putsSize_137 X _ _ _ _ hd s v1 v2 hd0 (by omega) (by omega) (by omega)) (fun z9 I18 J21 q22 => ?_)
              obtain ⟨rfl, r137, pl, hpl, hp1, hp2, hp3, hd9⟩ := q22
              show Ev X k_X9_readsSize (121, [some (vr 135), some (vi v1), some (vi v2), none], [vi z9]) (MS I18 J21 cc ss) _
              have hIE : insF d pl s v1 v2 = insE d v1 v2 := by unfold insE; rw [show (d 0).toNat = s by omega, plE_eq hp1 hp2 hp3]
              rw [hIE] at hd9
              refine ev_n (fr' := (122, [some (vr 135), some (vi v1), some (vi v2), some (vi z9)], [])) (S' := MS I18 J21 cc ss) 1 rfl ?_
              refine ev_r rfl rfl rfl ?_
              have hnd : ¬ szF d v1 ≠ -1 := by
                have hno9 := (hKb.2.2.2.2.2 hkd1).2.2
                rw [hv] at hno9
                have hv9 : v = v1 := by omega
                have hfr := fnd_rng (fun r => d (2 * r + 1)) v1 (d 0).toNat 0
                first
                  | exact absurd hkd1 (by assumption)
                  | (have h99 : ¬ 0 ≤ szF d v1 := by rw [← hv9]; assumption
                     rcases hfr with q | ⟨k, k1, k2, k3, k4⟩
                     · exact fun h => h q
                     · exact absurd (show 0 ≤ szF d v1 by show 0 ≤ fnd (fun r => d (2 * r + 1)) v1 (d 0).toNat 0; omega) h99)
              have hX0 : pSz false tx n d a (leF tx n a) = pSz2 false tx n d v1 e1 (leF tx n a) := pSz_1 (by omega) hpF
              have hX : pSz2 false tx n d v1 e1 (leF tx n a) = .inl (e2, insE d v1 v2) := by
                unfold pSz2; rw [if_neg hnd, if_pos (kd_0.mpr (wd_kd hxz).1), if_pos (by assumption), hr2]
              rw [hX0, hX]
              rw [fin_1 (by assumption)]
              exact ⟨_, _, rfl, rfl, ⟨hO.1, hO.2.1, fun a ha hb => (r137 a hb).trans (hO.2.2 a ha hb)⟩, hK.c (r137 135 (by decide)), hw0, hd9, by omega⟩
            · show Ev X k_X9_readsSize (102, [some (vr 135), some (vi v1), some (vi v2), none], [vi 0, vr 135]) (MS I15 J16 cc ss) _
              refine ev_cv rfl rfl rfl ⟨Nat.le_of_ble_eq_true rfl, Nat.le_of_ble_eq_true rfl⟩ (sp_mustF X _ _ _ _ (spF tx n e2) hw0 hK.2.2.1) ?_
              show Ev X k_X9_readsSize (105, [some (vr 135), some (vi v1), some (vi v2), none], []) (MS (up2 (up2 I15 135 11 (-2)) 135 12 (spF tx n e2 : Int)) J16 cc ss) _
              have hwE : (up2 (up2 I15 135 11 (-2)) 135 12 (spF tx n e2 : Int)) 135 11 ≠ 0 := EE.ne (EE.mk (by decide))
              refine ev_n (fr' := (122, [some (vr 135), some (vi v1), some (vi v2), none], [])) (S' := MS (up2 (up2 I15 135 11 (-2)) 135 12 (spF tx n e2 : Int)) J16 cc ss) 3 rfl ?_
              refine ev_r rfl rfl rfl ?_
              have hnd : ¬ szF d v1 ≠ -1 := by
                have hno9 := (hKb.2.2.2.2.2 hkd1).2.2
                rw [hv] at hno9
                have hv9 : v = v1 := by omega
                have hfr := fnd_rng (fun r => d (2 * r + 1)) v1 (d 0).toNat 0
                first
                  | exact absurd hkd1 (by assumption)
                  | (have h99 : ¬ 0 ≤ szF d v1 := by rw [← hv9]; assumption
                     rcases hfr with q | ⟨k, k1, k2, k3, k4⟩
                     · exact fun h => h q
                     · exact absurd (show 0 ≤ szF d v1 by show 0 ≤ fnd (fun r => d (2 * r + 1)) v1 (d 0).toNat 0; omega) h99)
              have hX0 : pSz false tx n d a (leF tx n a) = pSz2 false tx n d v1 e1 (leF tx n a) := pSz_1 (by omega) hpF
              have hX : pSz2 false tx n d v1 e1 (leF tx n a) = .inl (e2, insE d v1 v2) := by
                unfold pSz2; rw [if_neg hnd, if_pos (kd_0.mpr (wd_kd hxz).1), if_pos (by assumption), hr2]
              rw [hX0, hX]
              rw [fin_0 (by assumption)]
              exact ⟨_, _, rfl, rfl, hO.e, EE.mk (by decide)⟩
          · obtain ⟨hzv, hE⟩ := hz9
            subst z2
            have hR := hR.l hO9
            have hwE := hE.ne
            have hO := hO.trans hO9.f
            have hd := (hO9.2.2 137 (by decide)).trans hd
            show Ev X k_X9_readsSize (94, [some (vr 135), some (vi v1), some (vi 0), none], [vi 0]) (MS I15 J16 cc ss) _
            refine ev_n (fr' := (95, [some (vr 135), some (vi v1), some (vi 0), none], [])) (S' := MS I15 J16 cc ss) 1 rfl ?_
            refine ev_n (fr' := (99, [some (vr 135), some (vi v1), some (vi 0), none], [vi 59, vr 135, vr 135])) (S' := MS I15 J16 cc ss) 3 rfl ?_
            refine ev_cv rfl rfl rfl ⟨Nat.le_of_ble_eq_true rfl, Nat.le_of_ble_eq_true rfl⟩ (sp_isSignE X _ _ _ _ 59 hwE) ?_
            show Ev X k_X9_readsSize (102, [some (vr 135), some (vi v1), some (vi 0), none], [vi 0, vr 135]) (MS I15 J16 cc ss) _
            refine ev_cv rfl rfl rfl ⟨Nat.le_of_ble_eq_true rfl, Nat.le_of_ble_eq_true rfl⟩ (sp_mustE0 X _ _ _ _ hwE) ?_
            show Ev X k_X9_readsSize (105, [some (vr 135), some (vi v1), some (vi 0), none], []) (MS I15 J16 cc ss) _
            refine ev_n (fr' := (109, [some (vr 135), some (vi v1), some (vi 0), none], [vi (I15 135 11)])) (S' := MS I15 J16 cc ss) 2 rfl ?_
            refine ev_if (c := .ne) (off := 13) rfl (by decide) (fun (g5 : (I15 135 11) ≠ 0) => ?_) (fun (g5 : ¬ ((I15 135 11) ≠ 0)) => False.elim (g5 hwE))
            show Ev X k_X9_readsSize (122, [some (vr 135), some (vi v1), some (vi 0), none], []) (MS I15 J16 cc ss) _
            refine ev_r rfl rfl rfl ?_
            have hnd : ¬ szF d v1 ≠ -1 := by
              have hno9 := (hKb.2.2.2.2.2 hkd1).2.2
              rw [hv] at hno9
              have hv9 : v = v1 := by omega
              have hfr := fnd_rng (fun r => d (2 * r + 1)) v1 (d 0).toNat 0
              first
                | exact absurd hkd1 (by assumption)
                | (have h99 : ¬ 0 ≤ szF d v1 := by rw [← hv9]; assumption
                   rcases hfr with q | ⟨k, k1, k2, k3, k4⟩
                   · exact fun h => h q
                   · exact absurd (show 0 ≤ szF d v1 by show 0 ≤ fnd (fun r => d (2 * r + 1)) v1 (d 0).toNat 0; omega) h99)
            have hX0 : pSz false tx n d a (leF tx n a) = pSz2 false tx n d v1 e1 (leF tx n a) := pSz_1 (by omega) hpF
            have hX : pSz2 false tx n d v1 e1 (leF tx n a) = .inr (c2, s2) := by unfold pSz2; rw [if_neg hnd, if_pos (kd_0.mpr (wd_kd hxz).1), if_pos (by assumption), hr2]
            rw [hX0, hX]
            exact ⟨_, _, rfl, rfl, hO, hE⟩
      · obtain ⟨rfl, hE⟩ := hz9
        have hR := hR.l hO9
        have hwE := hE.ne
        have hO := hO.trans hO9.f
        have hd := (hO9.2.2 137 (by decide)).trans hd
        have hpF : pnF tx n 4 32 (leF tx n a) = .inr (c1, s1) := (pnF_tok (by decide)).trans hr1
        show Ev X k_X9_readsSize (72, [some (vr 135), none, none, none], [vi 0]) (MS I4 J5 cc ss) _
        refine ev_n (fr' := (78, [some (vr 135), some (vi 0), some (vi 0), none], [vr 1000101, vr 135])) (S' := MS I4 J5 cc ss) 5 rfl ?_
        refine ev_cv rfl rfl rfl ⟨Nat.le_of_ble_eq_true rfl, Nat.le_of_ble_eq_true rfl⟩ (sp_isWordE_1 X _ _ _ _ hwE) ?_
        show Ev X k_X9_readsSize (81, [some (vr 135), some (vi 0), some (vi 0), none], [vi 0]) (MS I4 J5 cc ss) _
        refine ev_n (fr' := (95, [some (vr 135), some (vi 0), some (vi 0), none], [])) (S' := MS I4 J5 cc ss) 1 rfl ?_
        refine ev_n (fr' := (99, [some (vr 135), some (vi 0), some (vi 0), none], [vi 59, vr 135, vr 135])) (S' := MS I4 J5 cc ss) 3 rfl ?_
        refine ev_cv rfl rfl rfl ⟨Nat.le_of_ble_eq_true rfl, Nat.le_of_ble_eq_true rfl⟩ (sp_isSignE X _ _ _ _ 59 hwE) ?_
        show Ev X k_X9_readsSize (102, [some (vr 135), some (vi 0), some (vi 0), none], [vi 0, vr 135]) (MS I4 J5 cc ss) _
        refine ev_cv rfl rfl rfl ⟨Nat.le_of_ble_eq_true rfl, Nat.le_of_ble_eq_true rfl⟩ (sp_mustE0 X _ _ _ _ hwE) ?_
        show Ev X k_X9_readsSize (105, [some (vr 135), some (vi 0), some (vi 0), none], []) (MS I4 J5 cc ss) _
        refine ev_n (fr' := (109, [some (vr 135), some (vi 0), some (vi 0), none], [vi (I4 135 11)])) (S' := MS I4 J5 cc ss) 2 rfl ?_
        refine ev_if (c := .ne) (off := 13) rfl (by decide) (fun (g3 : (I4 135 11) ≠ 0) => ?_) (fun (g3 : ¬ ((I4 135 11) ≠ 0)) => False.elim (g3 hwE))
        show Ev X k_X9_readsSize (122, [some (vr 135), some (vi 0), some (vi 0), none], []) (MS I4 J5 cc ss) _
        refine ev_r rfl rfl rfl ?_
        have hX : pSz false tx n d a (leF tx n a) = .inr (c1, s1) := by
          unfold pSz; rw [if_neg (by omega), hpF]
        rw [hX]
        exact ⟨_, _, rfl, rfl, hO, hE⟩
    · show Ev X k_X9_readsSize (44, [some (vr 135), none, none, none], []) (MS I1 J2 cc ss) _
      have hkk : kdF tx n (spF tx n (leF tx n a)) = 1 := Decidable.of_not_not g2
      refine ev_n (fr' := (52, [some (vr 135), none, none, none], [vl (J2 135 14), vr 137])) (S' := MS I1 J2 cc ss) 4 rfl ?_
      refine ev_eql (hv) ?_
      show Ev X k_X9_readsSize (52, [some (vr 135), none, none, none], [vl v, vr 137]) (MS I1 J2 cc ss) _
      refine ev_l2i rfl (by have := hKb.2.2.2.2.2 hkk; rw [hv] at this; unfold nOK at this; omega) (by have := hKb.2.2.2.2.2 hkk; rw [hv] at this; unfold nOK at this; omega) ?_
      show Ev X k_X9_readsSize (53, [some (vr 135), none, none, none], [vi v, vr 137]) (MS I1 J2 cc ss) _
      refine ev_cv rfl rfl rfl ⟨Nat.le_of_ble_eq_true rfl, Nat.le_of_ble_eq_true rfl⟩ (sp_hasSize_137 X _ _ _ _ v hd hws) ?_
      show Ev X k_X9_readsSize (56, [some (vr 135), none, none, none], [vi (if 0 ≤ szF d v then 1 else 0)]) (MS I1 J2 cc ss) _
      refine ev_beq _ rfl (by decide) (fun (g4 : ¬ (0 ≤ szF d v)) => ?_) (fun (g4 : 0 ≤ szF d v) => ?_)
      · show Ev X k_X9_readsSize (65, [some (vr 135), none, none, none], []) (MS I1 J2 cc ss) _
        refine ev_n (fr' := (69, [some (vr 135), none, none, none], [vi 32, vi 4, vr 135])) (S' := MS I1 J2 cc ss) 3 rfl ?_
        refine ev_cz rfl rfl rfl ⟨Nat.le_of_ble_eq_true rfl, Nat.le_of_ble_eq_true rfl⟩ (sp_takes X _ _ _ _ hR (spF tx n (leF tx n a)) hK hw0 4 32 (by omega)) (fun z1 I7 J8 q9 => ?_)
        obtain ⟨hO9, hz9⟩ := q9
        rcases hr1 : pnU tx n false 4 32 (spF tx n (leF tx n a)) with ⟨e1, v1⟩ | ⟨c1, s1⟩ <;> rw [hr1] at hz9
        · obtain ⟨hzv, hK, hw0, hen1⟩ := hz9
          subst z1
          have hR := hR.l hO9
          have hpn1 := pnU_ok hr1
          have hO := hO.trans hO9.f
          have hd := (hO9.2.2 137 (by decide)).trans hd
          have hpF : pnF tx n 4 32 (leF tx n a) = .inl (e1, v1) := (pnF_tok (by decide)).trans hr1
          have hx9 := pnF_rng hpF
          have hnu := pnU_nu hr1
          have hkd1 := kd_1.mpr hnu.2
          show Ev X k_X9_readsSize (72, [some (vr 135), none, none, none], [vi v1]) (MS I7 J8 cc ss) _
          refine ev_n (fr' := (78, [some (vr 135), some (vi v1), some (vi 0), none], [vr 1000101, vr 135])) (S' := MS I7 J8 cc ss) 5 rfl ?_
          refine ev_cv rfl rfl rfl ⟨Nat.le_of_ble_eq_true rfl, Nat.le_of_ble_eq_true rfl⟩ (sp_isWord_1 X _ _ _ _ hR (spF tx n e1) hK hw0) ?_
          show Ev X k_X9_readsSize (81, [some (vr 135), some (vi v1), some (vi 0), none], [vi (if wdF tx n (spF tx n e1) = 6050369 then 1 else 0)]) (MS I7 J8 cc ss) _
          refine ev_beq _ rfl (by decide) (fun (g5 : ¬ (wdF tx n (spF tx n e1) = 6050369)) => ?_) (fun (g5 : wdF tx n (spF tx n e1) = 6050369) => ?_)
          · show Ev X k_X9_readsSize (95, [some (vr 135), some (vi v1), some (vi 0), none], []) (MS I7 J8 cc ss) _
            have hnx : ¬ wdF tx n (spF tx n e1) = 6050369 := g5
            refine ev_n (fr' := (99, [some (vr 135), some (vi v1), some (vi 0), none], [vi 59, vr 135, vr 135])) (S' := MS I7 J8 cc ss) 3 rfl ?_
            refine ev_cv rfl rfl rfl ⟨Nat.le_of_ble_eq_true rfl, Nat.le_of_ble_eq_true rfl⟩ (sp_isSign X _ _ _ _ hR (spF tx n e1) hK hw0 59 (by decide) (by decide) (by decide)) ?_
            show Ev X k_X9_readsSize (102, [some (vr 135), some (vi v1), some (vi 0), none], [vi (if atF tx n (spF tx n e1) = 59 then 1 else 0), vr 135]) (MS I7 J8 cc ss) _
            refine ev_sp _ (fun (g6 : atF tx n (spF tx n e1) = 59) => ?_) (fun (g6 : ¬ (atF tx n (spF tx n e1) = 59)) => ?_)
            · show Ev X k_X9_readsSize (102, [some (vr 135), some (vi v1), some (vi 0), none], [vi 1, vr 135]) (MS I7 J8 cc ss) _
              refine ev_cp rfl rfl rfl ⟨Nat.le_of_ble_eq_true rfl, Nat.le_of_ble_eq_true rfl⟩ (sp_mustT X _ _ _ _ hR (spF tx n e1) hK hw0) (fun I10 J11 q12 => ?_)
              obtain ⟨hK, hO9, hw0⟩ := q12
              show Ev X k_X9_readsSize (105, [some (vr 135), some (vi v1), some (vi 0), none], []) (MS I10 J11 cc ss) _
              have h59 := g6
              have hsg := (sg_at (c := 59) (by decide) (by decide) (by decide)).mp h59
              have hlt := (kd_2.mp hsg.1).1
              rw [en_2 (kd_2.mp hsg.1)] at hK
              have hR := hR.l hO9
              have hO := hO.trans hO9.f
              have hd := (hO9.2.2 137 (by decide)).trans hd
              refine ev_n (fr' := (109, [some (vr 135), some (vi v1), some (vi 0), none], [vi (I10 135 11)])) (S' := MS I10 J11 cc ss) 2 rfl ?_
              refine ev_eqi (hw0) ?_
              show Ev X k_X9_readsSize (109, [some (vr 135), some (vi v1), some (vi 0), none], [vi 0]) (MS I10 J11 cc ss) _
              refine ev_n (fr' := (118, [some (vr 135), some (vi v1), some (vi 0), none], [vi 0, vi v1, vr 137])) (S' := MS I10 J11 cc ss) 5 rfl ?_
              refine ev_cz rfl rfl rfl ⟨Nat.le_of_ble_eq_true rfl, Nat.le_of_ble_eq_true rfl⟩ (sp_putsSize_137 X _ _ _ _ hd s v1 0 hd0 (by omega) (by omega) (by omega)) (fun z9 I10 J13 q14 => ?_)
              obtain ⟨rfl, r137, pl, hpl, hp1, hp2, hp3, hd9⟩ := q14
              show Ev X k_X9_readsSize (121, [some (vr 135), some (vi v1), some (vi 0), none], [vi z9]) (MS I10 J13 cc ss) _
              have hIE : insF d pl s v1 0 = insE d v1 0 := by unfold insE; rw [show (d 0).toNat = s by omega, plE_eq hp1 hp2 hp3]
              rw [hIE] at hd9
              refine ev_n (fr' := (122, [some (vr 135), some (vi v1), some (vi 0), some (vi z9)], [])) (S' := MS I10 J13 cc ss) 1 rfl ?_
              refine ev_r rfl rfl rfl ?_
              have hnd : ¬ szF d v1 ≠ -1 := by
                have hno9 := (hKb.2.2.2.2.2 hkd1).2.2
                rw [hv] at hno9
                have hv9 : v = v1 := by omega
                have hfr := fnd_rng (fun r => d (2 * r + 1)) v1 (d 0).toNat 0
                first
                  | exact absurd hkd1 (by assumption)
                  | (have h99 : ¬ 0 ≤ szF d v1 := by rw [← hv9]; assumption
                     rcases hfr with q | ⟨k, k1, k2, k3, k4⟩
                     · exact fun h => h q
                     · exact absurd (show 0 ≤ szF d v1 by show 0 ≤ fnd (fun r => d (2 * r + 1)) v1 (d 0).toNat 0; omega) h99)
              have hX0 : pSz false tx n d a (leF tx n a) = pSz2 false tx n d v1 e1 (leF tx n a) := pSz_1 (by omega) hpF
              have hX : pSz2 false tx n d v1 e1 (leF tx n a) = .inl ((spF tx n e1), insE d v1 0) := by
                unfold pSz2; rw [if_neg hnd]
                by_cases hk9 : kdF tx n (spF tx n e1) = 0
                · rw [if_pos hk9, if_neg hnx, if_neg (by decide)]
                · rw [if_neg hk9]
              rw [hX0, hX]
              rw [fin_1 (by rw [spF_idem]; assumption), spF_idem]
              exact ⟨_, _, rfl, rfl, ⟨hO.1, hO.2.1, fun a ha hb => (r137 a hb).trans (hO.2.2 a ha hb)⟩, hK.c (r137 135 (by decide)), hw0, hd9, by omega⟩
            · show Ev X k_X9_readsSize (102, [some (vr 135), some (vi v1), some (vi 0), none], [vi 0, vr 135]) (MS I7 J8 cc ss) _
              refine ev_cv rfl rfl rfl ⟨Nat.le_of_ble_eq_true rfl, Nat.le_of_ble_eq_true rfl⟩ (sp_mustF X _ _ _ _ (spF tx n e1) hw0 hK.2.2.1) ?_
              show Ev X k_X9_readsSize (105, [some (vr 135), some (vi v1), some (vi 0), none], []) (MS (up2 (up2 I7 135 11 (-2)) 135 12 (spF tx n e1 : Int)) J8 cc ss) _
              have hwE : (up2 (up2 I7 135 11 (-2)) 135 12 (spF tx n e1 : Int)) 135 11 ≠ 0 := EE.ne (EE.mk (by decide))
              refine ev_n (fr' := (122, [some (vr 135), some (vi v1), some (vi 0), none], [])) (S' := MS (up2 (up2 I7 135 11 (-2)) 135 12 (spF tx n e1 : Int)) J8 cc ss) 3 rfl ?_
              refine ev_r rfl rfl rfl ?_
              have hnd : ¬ szF d v1 ≠ -1 := by
                have hno9 := (hKb.2.2.2.2.2 hkd1).2.2
                rw [hv] at hno9
                have hv9 : v = v1 := by omega
                have hfr := fnd_rng (fun r => d (2 * r + 1)) v1 (d 0).toNat 0
                first
                  | exact absurd hkd1 (by assumption)
                  | (have h99 : ¬ 0 ≤ szF d v1 := by rw [← hv9]; assumption
                     rcases hfr with q | ⟨k, k1, k2, k3, k4⟩
                     · exact fun h => h q
                     · exact absurd (show 0 ≤ szF d v1 by show 0 ≤ fnd (fun r => d (2 * r + 1)) v1 (d 0).toNat 0; omega) h99)
              have hX0 : pSz false tx n d a (leF tx n a) = pSz2 false tx n d v1 e1 (leF tx n a) := pSz_1 (by omega) hpF
              have hX : pSz2 false tx n d v1 e1 (leF tx n a) = .inl ((spF tx n e1), insE d v1 0) := by
                unfold pSz2; rw [if_neg hnd]
                by_cases hk9 : kdF tx n (spF tx n e1) = 0
                · rw [if_pos hk9, if_neg hnx, if_neg (by decide)]
                · rw [if_neg hk9]
              rw [hX0, hX]
              rw [fin_0 (by rw [spF_idem]; assumption), spF_idem]
              exact ⟨_, _, rfl, rfl, hO.e, EE.mk (by decide)⟩
          · show Ev X k_X9_readsSize (84, [some (vr 135), some (vi v1), some (vi 0), none], []) (MS I7 J8 cc ss) _
            refine ev_n (fr' := (86, [some (vr 135), some (vi v1), some (vi 0), none], [vi 1, vr 135])) (S' := MS I7 J8 cc ss) 2 rfl ?_
            refine ev_cp rfl rfl rfl ⟨Nat.le_of_ble_eq_true rfl, Nat.le_of_ble_eq_true rfl⟩ (sp_mustT X _ _ _ _ hR (spF tx n e1) hK hw0) (fun I15 J16 q17 => ?_)
            obtain ⟨hK, hO9, hw0⟩ := q17
            show Ev X k_X9_readsSize (89, [some (vr 135), some (vi v1), some (vi 0), none], []) (MS I15 J16 cc ss) _
            have hxz : wdF tx n (spF tx n e1) ≠ 0 := by omega
            rw [en_0 (wd_kd hxz).1] at hK
            have hR := hR.l hO9
            have hO := hO.trans hO9.f
            have hd := (hO9.2.2 137 (by decide)).trans hd
            refine ev_n (fr' := (91, [some (vr 135), some (vi v1), some (vi 0), none], [vi 2, vr 135])) (S' := MS I15 J16 cc ss) 2 rfl ?_
            refine ev_cz rfl rfl rfl ⟨Nat.le_of_ble_eq_true rfl, Nat.le_of_ble_eq_true rfl⟩ (sp_takesSigned X _ _ _ _ hR (spF tx n (leF tx n (spF tx n e1))) hK hw0 2 (by omega)) (fun z2 I18 J19 q20 => ?_)
            obtain ⟨hO9, hz9⟩ := q20
            rw [pnF_sp] at hz9
            rcases hr2 : pnF tx n (-2) 2 ((leF tx n (spF tx n e1))) with ⟨e2, v2⟩ | ⟨c2, s2⟩ <;> rw [hr2] at hz9
            · obtain ⟨hzv, hK, hw0, hen2⟩ := hz9
              subst z2
              have hR := hR.l hO9
              have hpr2 := pnF_rng hr2
              have hO := hO.trans hO9.f
              have hd := (hO9.2.2 137 (by decide)).trans hd
              show Ev X k_X9_readsSize (94, [some (vr 135), some (vi v1), some (vi 0), none], [vi v2]) (MS I18 J19 cc ss) _
              refine ev_n (fr' := (95, [some (vr 135), some (vi v1), some (vi v2), none], [])) (S' := MS I18 J19 cc ss) 1 rfl ?_
              refine ev_n (fr' := (99, [some (vr 135), some (vi v1), some (vi v2), none], [vi 59, vr 135, vr 135])) (S' := MS I18 J19 cc ss) 3 rfl ?_
              refine ev_cv rfl rfl rfl ⟨Nat.le_of_ble_eq_true rfl, Nat.le_of_ble_eq_true rfl⟩ (sp_isSign X _ _ _ _ hR (spF tx n e2) hK hw0 59 (by decide) (by decide) (by decide)) ?_
              show Ev X k_X9_readsSize (102, [some (vr 135), some (vi v1), some (vi v2), none], [vi (if atF tx n (spF tx n e2) = 59 then 1 else 0), vr 135]) (MS I18 J19 cc ss) _
              refine ev_sp _ (fun (g7 : atF tx n (spF tx n e2) = 59) => ?_) (fun (g7 : ¬ (atF tx n (spF tx n e2) = 59)) => ?_)
              · show Ev X k_X9_readsSize (102, [some (vr 135), some (vi v1), some (vi v2), none], [vi 1, vr 135]) (MS I18 J19 cc ss) _
                refine ev_cp rfl rfl rfl ⟨Nat.le_of_ble_eq_true rfl, Nat.le_of_ble_eq_true rfl⟩ (sp_mustT X _ _ _ _ hR (spF tx n e2) hK hw0) (fun I21 J22 q23 => ?_)
                obtain ⟨hK, hO9, hw0⟩ := q23
                show Ev X k_X9_readsSize (105, [some (vr 135), some (vi v1), some (vi v2), none], []) (MS I21 J22 cc ss) _
                have h59 := g7
                have hsg := (sg_at (c := 59) (by decide) (by decide) (by decide)).mp h59
                have hlt := (kd_2.mp hsg.1).1
                rw [en_2 (kd_2.mp hsg.1)] at hK
                have hR := hR.l hO9
                have hO := hO.trans hO9.f
                have hd := (hO9.2.2 137 (by decide)).trans hd
                refine ev_n (fr' := (109, [some (vr 135), some (vi v1), some (vi v2), none], [vi (I21 135 11)])) (S' := MS I21 J22 cc ss) 2 rfl ?_
                refine ev_eqi (hw0) ?_
                show Ev X k_X9_readsSize (109, [some (vr 135), some (vi v1), some (vi v2), none], [vi 0]) (MS I21 J22 cc ss) _
                refine ev_n (fr' := (118, [some (vr 135), some (vi v1), some (vi v2), none], [vi v2, vi v1, vr 137])) (S' := MS I21 J22 cc ss) 5 rfl ?_
                refine ev_cz rfl rfl rfl ⟨Nat.le_of_ble_eq_true rfl, Nat.le_of_ble_eq_true rfl⟩ (sp_putsSize_137 X _ _ _ _ hd s v1 v2 hd0 (by omega) (by omega) (by omega)) (fun z9 I21 J24 q25 => ?_)
                obtain ⟨rfl, r137, pl, hpl, hp1, hp2, hp3, hd9⟩ := q25
                show Ev X k_X9_readsSize (121, [some (vr 135), some (vi v1), some (vi v2), none], [vi z9]) (MS I21 J24 cc ss) _
                have hIE : insF d pl s v1 v2 = insE d v1 v2 := by unfold insE; rw [show (d 0).toNat = s by omega, plE_eq hp1 hp2 hp3]
                rw [hIE] at hd9
                refine ev_n (fr' := (122, [some (vr 135), some (vi v1), some (vi v2), some (vi z9)], [])) (S' := MS I21 J24 cc ss) 1 rfl ?_
                refine ev_r rfl rfl rfl ?_
                have hnd : ¬ szF d v1 ≠ -1 := by
                  have hno9 := (hKb.2.2.2.2.2 hkd1).2.2
                  rw [hv] at hno9
                  have hv9 : v = v1 := by omega
                  have hfr := fnd_rng (fun r => d (2 * r + 1)) v1 (d 0).toNat 0
                  first
                    | exact absurd hkd1 (by assumption)
                    | (have h99 : ¬ 0 ≤ szF d v1 := by rw [← hv9]; assumption
                       rcases hfr with q | ⟨k, k1, k2, k3, k4⟩
                       · exact fun h => h q
                       · exact absurd (show 0 ≤ szF d v1 by show 0 ≤ fnd (fun r => d (2 * r + 1)) v1 (d 0).toNat 0; omega) h99)
                have hX0 : pSz false tx n d a (leF tx n a) = pSz2 false tx n d v1 e1 (leF tx n a) := pSz_1 (by omega) hpF
                have hX : pSz2 false tx n d v1 e1 (leF tx n a) = .inl (e2, insE d v1 v2) := by
                  unfold pSz2; rw [if_neg hnd, if_pos (kd_0.mpr (wd_kd hxz).1), if_pos (by assumption), hr2]
                rw [hX0, hX]
                rw [fin_1 (by assumption)]
                exact ⟨_, _, rfl, rfl, ⟨hO.1, hO.2.1, fun a ha hb => (r137 a hb).trans (hO.2.2 a ha hb)⟩, hK.c (r137 135 (by decide)), hw0, hd9, by omega⟩
              · show Ev X k_X9_readsSize (102, [some (vr 135), some (vi v1), some (vi v2), none], [vi 0, vr 135]) (MS I18 J19 cc ss) _
                refine ev_cv rfl rfl rfl ⟨Nat.le_of_ble_eq_true rfl, Nat.le_of_ble_eq_true rfl⟩ (sp_mustF X _ _ _ _ (spF tx n e2) hw0 hK.2.2.1) ?_
                show Ev X k_X9_readsSize (105, [some (vr 135), some (vi v1), some (vi v2), none], []) (MS (up2 (up2 I18 135 11 (-2)) 135 12 (spF tx n e2 : Int)) J19 cc ss) _
                have hwE : (up2 (up2 I18 135 11 (-2)) 135 12 (spF tx n e2 : Int)) 135 11 ≠ 0 := EE.ne (EE.mk (by decide))
                refine ev_n (fr' := (122, [some (vr 135), some (vi v1), some (vi v2), none], [])) (S' := MS (up2 (up2 I18 135 11 (-2)) 135 12 (spF tx n e2 : Int)) J19 cc ss) 3 rfl ?_
                refine ev_r rfl rfl rfl ?_
                have hnd : ¬ szF d v1 ≠ -1 := by
                  have hno9 := (hKb.2.2.2.2.2 hkd1).2.2
                  rw [hv] at hno9
                  have hv9 : v = v1 := by omega
                  have hfr := fnd_rng (fun r => d (2 * r + 1)) v1 (d 0).toNat 0
                  first
                    | exact absurd hkd1 (by assumption)
                    | (have h99 : ¬ 0 ≤ szF d v1 := by rw [← hv9]; assumption
                       rcases hfr with q | ⟨k, k1, k2, k3, k4⟩
                       · exact fun h => h q
                       · exact absurd (show 0 ≤ szF d v1 by show 0 ≤ fnd (fun r => d (2 * r + 1)) v1 (d 0).toNat 0; omega) h99)
                have hX0 : pSz false tx n d a (leF tx n a) = pSz2 false tx n d v1 e1 (leF tx n a) := pSz_1 (by omega) hpF
                have hX : pSz2 false tx n d v1 e1 (leF tx n a) = .inl (e2, insE d v1 v2) := by
                  unfold pSz2; rw [if_neg hnd, if_pos (kd_0.mpr (wd_kd hxz).1), if_pos (by assumption), hr2]
                rw [hX0, hX]
                rw [fin_0 (by assumption)]
                exact ⟨_, _, rfl, rfl, hO.e, EE.mk (by decide)⟩
            · obtain ⟨hzv, hE⟩ := hz9
              subst z2
              have hR := hR.l hO9
              have hwE := hE.ne
              have hO := hO.trans hO9.f
              have hd := (hO9.2.2 137 (by decide)).trans hd
              show Ev X k_X9_readsSize (94, [some (vr 135), some (vi v1), some (vi 0), none], [vi 0]) (MS I18 J19 cc ss) _
              refine ev_n (fr' := (95, [some (vr 135), some (vi v1), some (vi 0), none], [])) (S' := MS I18 J19 cc ss) 1 rfl ?_
              refine ev_n (fr' := (99, [some (vr 135), some (vi v1), some (vi 0), none], [vi 59, vr 135, vr 135])) (S' := MS I18 J19 cc ss) 3 rfl ?_
              refine ev_cv rfl rfl rfl ⟨Nat.le_of_ble_eq_true rfl, Nat.le_of_ble_eq_true rfl⟩ (sp_isSignE X _ _ _ _ 59 hwE) ?_
              show Ev X k_X9_readsSize (102, [some (vr 135), some (vi v1), some (vi 0), none], [vi 0, vr 135]) (MS I18 J19 cc ss) _
              refine ev_cv rfl rfl rfl ⟨Nat.le_of_ble_eq_true rfl, Nat.le_of_ble_eq_true rfl⟩ (sp_mustE0 X _ _ _ _ hwE) ?_
              show Ev X k_X9_readsSize (105, [some (vr 135), some (vi v1), some (vi 0), none], []) (MS I18 J19 cc ss) _
              refine ev_n (fr' := (109, [some (vr 135), some (vi v1), some (vi 0), none], [vi (I18 135 11)])) (S' := MS I18 J19 cc ss) 2 rfl ?_
              refine ev_if (c := .ne) (off := 13) rfl (by decide) (fun (g7 : (I18 135 11) ≠ 0) => ?_) (fun (g7 : ¬ ((I18 135 11) ≠ 0)) => False.elim (g7 hwE))
              show Ev X k_X9_readsSize (122, [some (vr 135), some (vi v1), some (vi 0), none], []) (MS I18 J19 cc ss) _
              refine ev_r rfl rfl rfl ?_
              have hnd : ¬ szF d v1 ≠ -1 := by
                have hno9 := (hKb.2.2.2.2.2 hkd1).2.2
                rw [hv] at hno9
                have hv9 : v = v1 := by omega
                have hfr := fnd_rng (fun r => d (2 * r + 1)) v1 (d 0).toNat 0
                first
                  | exact absurd hkd1 (by assumption)
                  | (have h99 : ¬ 0 ≤ szF d v1 := by rw [← hv9]; assumption
                     rcases hfr with q | ⟨k, k1, k2, k3, k4⟩
                     · exact fun h => h q
                     · exact absurd (show 0 ≤ szF d v1 by show 0 ≤ fnd (fun r => d (2 * r + 1)) v1 (d 0).toNat 0; omega) h99)
              have hX0 : pSz false tx n d a (leF tx n a) = pSz2 false tx n d v1 e1 (leF tx n a) := pSz_1 (by omega) hpF
              have hX : pSz2 false tx n d v1 e1 (leF tx n a) = .inr (c2, s2) := by unfold pSz2; rw [if_neg hnd, if_pos (kd_0.mpr (wd_kd hxz).1), if_pos (by assumption), hr2]
              rw [hX0, hX]
              exact ⟨_, _, rfl, rfl, hO, hE⟩
        · obtain ⟨rfl, hE⟩ := hz9
          have hR := hR.l hO9
          have hwE := hE.ne
          have hO := hO.trans hO9.f
          have hd := (hO9.2.2 137 (by decide)).trans hd
          have hpF : pnF tx n 4 32 (leF tx n a) = .inr (c1, s1) := (pnF_tok (by decide)).trans hr1
          show Ev X k_X9_readsSize (72, [some (vr 135), none, none, none], [vi 0]) (MS I7 J8 cc ss) _
          refine ev_n (fr' := (78, [some (vr 135), some (vi 0), some (vi 0), none], [vr 1000101, vr 135])) (S' := MS I7 J8 cc ss) 5 rfl ?_
          refine ev_cv rfl rfl rfl ⟨Nat.le_of_ble_eq_true rfl, Nat.le_of_ble_eq_true rfl⟩ (sp_isWordE_1 X _ _ _ _ hwE) ?_
          show Ev X k_X9_readsSize (81, [some (vr 135), some (vi 0), some (vi 0), none], [vi 0]) (MS I7 J8 cc ss) _
          refine ev_n (fr' := (95, [some (vr 135), some (vi 0), some (vi 0), none], [])) (S' := MS I7 J8 cc ss) 1 rfl ?_
          refine ev_n (fr' := (99, [some (vr 135), some (vi 0), some (vi 0), none], [vi 59, vr 135, vr 135])) (S' := MS I7 J8 cc ss) 3 rfl ?_
          refine ev_cv rfl rfl rfl ⟨Nat.le_of_ble_eq_true rfl, Nat.le_of_ble_eq_true rfl⟩ (sp_isSignE X _ _ _ _ 59 hwE) ?_
          show Ev X k_X9_readsSize (102, [some (vr 135), some (vi 0), some (vi 0), none], [vi 0, vr 135]) (MS I7 J8 cc ss) _
          refine ev_cv rfl rfl rfl ⟨Nat.le_of_ble_eq_true rfl, Nat.le_of_ble_eq_true rfl⟩ (sp_mustE0 X _ _ _ _ hwE) ?_
          show Ev X k_X9_readsSize (105, [some (vr 135), some (vi 0), some (vi 0), none], []) (MS I7 J8 cc ss) _
          refine ev_n (fr' := (109, [some (vr 135), some (vi 0), some (vi 0), none], [vi (I7 135 11)])) (S' := MS I7 J8 cc ss) 2 rfl ?_
          refine ev_if (c := .ne) (off := 13) rfl (by decide) (fun (g5 : (I7 135 11) ≠ 0) => ?_) (fun (g5 : ¬ ((I7 135 11) ≠ 0)) => False.elim (g5 hwE))
          show Ev X k_X9_readsSize (122, [some (vr 135), some (vi 0), some (vi 0), none], []) (MS I7 J8 cc ss) _
          refine ev_r rfl rfl rfl ?_
          have hX : pSz false tx n d a (leF tx n a) = .inr (c1, s1) := by
            unfold pSz; rw [if_neg (by omega), hpF]
          rw [hX]
          exact ⟨_, _, rfl, rfl, hO, hE⟩
      · show Ev X k_X9_readsSize (59, [some (vr 135), none, none, none], []) (MS I1 J2 cc ss) _
        refine ev_n (fr' := (62, [some (vr 135), none, none, none], [vi (-3), vr 135])) (S' := MS I1 J2 cc ss) 2 rfl ?_
        refine ev_cv rfl rfl rfl ⟨Nat.le_of_ble_eq_true rfl, Nat.le_of_ble_eq_true rfl⟩ (sp_fails X _ _ _ _ (-3) (spF tx n (leF tx n a)) hw0 hK.2.2.1) ?_
        show Ev X k_X9_readsSize (65, [some (vr 135), none, none, none], []) (MS (up2 (up2 I1 135 11 (-3)) 135 12 (spF tx n (leF tx n a) : Int)) J2 cc ss) _
        have hwE : (up2 (up2 I1 135 11 (-3)) 135 12 (spF tx n (leF tx n a) : Int)) 135 11 ≠ 0 := EE.ne (EE.mk (by decide))
        refine ev_n (fr' := (69, [some (vr 135), none, none, none], [vi 32, vi 4, vr 135])) (S' := MS (up2 (up2 I1 135 11 (-3)) 135 12 (spF tx n (leF tx n a) : Int)) J2 cc ss) 3 rfl ?_
        refine ev_cv rfl rfl rfl ⟨Nat.le_of_ble_eq_true rfl, Nat.le_of_ble_eq_true rfl⟩ (sp_takesE X _ _ _ _ 4 32 hwE) ?_
        show Ev X k_X9_readsSize (72, [some (vr 135), none, none, none], [vi 0]) (MS (up2 (up2 I1 135 11 (-3)) 135 12 (spF tx n (leF tx n a) : Int)) J2 cc ss) _
        refine ev_n (fr' := (78, [some (vr 135), some (vi 0), some (vi 0), none], [vr 1000101, vr 135])) (S' := MS (up2 (up2 I1 135 11 (-3)) 135 12 (spF tx n (leF tx n a) : Int)) J2 cc ss) 5 rfl ?_
        refine ev_cv rfl rfl rfl ⟨Nat.le_of_ble_eq_true rfl, Nat.le_of_ble_eq_true rfl⟩ (sp_isWordE_1 X _ _ _ _ hwE) ?_
        show Ev X k_X9_readsSize (81, [some (vr 135), some (vi 0), some (vi 0), none], [vi 0]) (MS (up2 (up2 I1 135 11 (-3)) 135 12 (spF tx n (leF tx n a) : Int)) J2 cc ss) _
        refine ev_n (fr' := (95, [some (vr 135), some (vi 0), some (vi 0), none], [])) (S' := MS (up2 (up2 I1 135 11 (-3)) 135 12 (spF tx n (leF tx n a) : Int)) J2 cc ss) 1 rfl ?_
        refine ev_n (fr' := (99, [some (vr 135), some (vi 0), some (vi 0), none], [vi 59, vr 135, vr 135])) (S' := MS (up2 (up2 I1 135 11 (-3)) 135 12 (spF tx n (leF tx n a) : Int)) J2 cc ss) 3 rfl ?_
        refine ev_cv rfl rfl rfl ⟨Nat.le_of_ble_eq_true rfl, Nat.le_of_ble_eq_true rfl⟩ (sp_isSignE X _ _ _ _ 59 hwE) ?_
        show Ev X k_X9_readsSize (102, [some (vr 135), some (vi 0), some (vi 0), none], [vi 0, vr 135]) (MS (up2 (up2 I1 135 11 (-3)) 135 12 (spF tx n (leF tx n a) : Int)) J2 cc ss) _
        refine ev_cv rfl rfl rfl ⟨Nat.le_of_ble_eq_true rfl, Nat.le_of_ble_eq_true rfl⟩ (sp_mustE0 X _ _ _ _ hwE) ?_
        show Ev X k_X9_readsSize (105, [some (vr 135), some (vi 0), some (vi 0), none], []) (MS (up2 (up2 I1 135 11 (-3)) 135 12 (spF tx n (leF tx n a) : Int)) J2 cc ss) _
        refine ev_n (fr' := (122, [some (vr 135), some (vi 0), some (vi 0), none], [])) (S' := MS (up2 (up2 I1 135 11 (-3)) 135 12 (spF tx n (leF tx n a) : Int)) J2 cc ss) 3 rfl ?_
        refine ev_r rfl rfl rfl ?_
        have hX : pSz false tx n d a (leF tx n a) = .inr (-3, (spF tx n (leF tx n a))) := by
          exact pSz_dup (by omega) (kd_1.mp hkk) (hv ▸ hKb.2.2.2.2.2 hkk) (by assumption)
        rw [hX]
        exact ⟨_, _, rfl, rfl, hO.e, EE.mk (by decide)⟩
  · show Ev X k_X9_readsSize (13, [some (vr 135), none, none, none], []) (MS I J cc ss) _
    refine ev_n (fr' := (16, [some (vr 135), none, none, none], [vi (-4), vr 135])) (S' := MS I J cc ss) 2 rfl ?_
    refine ev_cv rfl rfl rfl ⟨Nat.le_of_ble_eq_true rfl, Nat.le_of_ble_eq_true rfl⟩ (sp_fails X _ _ _ _ (-4) a hw0 hK.2.2.1) ?_
    show Ev X k_X9_readsSize (19, [some (vr 135), none, none, none], []) (MS (up2 (up2 I 135 11 (-4)) 135 12 (a : Int)) J cc ss) _
    have hwE : (up2 (up2 I 135 11 (-4)) 135 12 (a : Int)) 135 11 ≠ 0 := EE.ne (EE.mk (by decide))
    refine ev_n (fr' := (23, [some (vr 135), none, none, none], [vr 1000100, vr 135, vr 135])) (S' := MS (up2 (up2 I 135 11 (-4)) 135 12 (a : Int)) J cc ss) 3 rfl ?_
    refine ev_cv rfl rfl rfl ⟨Nat.le_of_ble_eq_true rfl, Nat.le_of_ble_eq_true rfl⟩ (sp_isWordE_0 X _ _ _ _ hwE) ?_
    show Ev X k_X9_readsSize (26, [some (vr 135), none, none, none], [vi 0, vr 135]) (MS (up2 (up2 I 135 11 (-4)) 135 12 (a : Int)) J cc ss) _
    refine ev_cv rfl rfl rfl ⟨Nat.le_of_ble_eq_true rfl, Nat.le_of_ble_eq_true rfl⟩ (sp_mustE0 X _ _ _ _ hwE) ?_
    show Ev X k_X9_readsSize (29, [some (vr 135), none, none, none], []) (MS (up2 (up2 I 135 11 (-4)) 135 12 (a : Int)) J cc ss) _
    refine ev_n (fr' := (69, [some (vr 135), none, none, none], [vi 32, vi 4, vr 135])) (S' := MS (up2 (up2 I 135 11 (-4)) 135 12 (a : Int)) J cc ss) 6 rfl ?_
    refine ev_cv rfl rfl rfl ⟨Nat.le_of_ble_eq_true rfl, Nat.le_of_ble_eq_true rfl⟩ (sp_takesE X _ _ _ _ 4 32 hwE) ?_
    show Ev X k_X9_readsSize (72, [some (vr 135), none, none, none], [vi 0]) (MS (up2 (up2 I 135 11 (-4)) 135 12 (a : Int)) J cc ss) _
    refine ev_n (fr' := (78, [some (vr 135), some (vi 0), some (vi 0), none], [vr 1000101, vr 135])) (S' := MS (up2 (up2 I 135 11 (-4)) 135 12 (a : Int)) J cc ss) 5 rfl ?_
    refine ev_cv rfl rfl rfl ⟨Nat.le_of_ble_eq_true rfl, Nat.le_of_ble_eq_true rfl⟩ (sp_isWordE_1 X _ _ _ _ hwE) ?_
    show Ev X k_X9_readsSize (81, [some (vr 135), some (vi 0), some (vi 0), none], [vi 0]) (MS (up2 (up2 I 135 11 (-4)) 135 12 (a : Int)) J cc ss) _
    refine ev_n (fr' := (95, [some (vr 135), some (vi 0), some (vi 0), none], [])) (S' := MS (up2 (up2 I 135 11 (-4)) 135 12 (a : Int)) J cc ss) 1 rfl ?_
    refine ev_n (fr' := (99, [some (vr 135), some (vi 0), some (vi 0), none], [vi 59, vr 135, vr 135])) (S' := MS (up2 (up2 I 135 11 (-4)) 135 12 (a : Int)) J cc ss) 3 rfl ?_
    refine ev_cv rfl rfl rfl ⟨Nat.le_of_ble_eq_true rfl, Nat.le_of_ble_eq_true rfl⟩ (sp_isSignE X _ _ _ _ 59 hwE) ?_
    show Ev X k_X9_readsSize (102, [some (vr 135), some (vi 0), some (vi 0), none], [vi 0, vr 135]) (MS (up2 (up2 I 135 11 (-4)) 135 12 (a : Int)) J cc ss) _
    refine ev_cv rfl rfl rfl ⟨Nat.le_of_ble_eq_true rfl, Nat.le_of_ble_eq_true rfl⟩ (sp_mustE0 X _ _ _ _ hwE) ?_
    show Ev X k_X9_readsSize (105, [some (vr 135), some (vi 0), some (vi 0), none], []) (MS (up2 (up2 I 135 11 (-4)) 135 12 (a : Int)) J cc ss) _
    refine ev_n (fr' := (122, [some (vr 135), some (vi 0), some (vi 0), none], [])) (S' := MS (up2 (up2 I 135 11 (-4)) 135 12 (a : Int)) J cc ss) 3 rfl ?_
    refine ev_r rfl rfl rfl ?_
    have hX : pSz false tx n d a (leF tx n a) = .inr (-4, a) := by
      unfold pSz; rw [if_pos (by omega)]
    rw [hX]
    exact ⟨_, _, rfl, rfl, hO.e, EE.mk (by decide)⟩
