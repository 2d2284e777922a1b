/-! THE CLASS reads uses (printed by gen/g92.py) -/
def vUF (t z1 z2 : Int) : F1 := fun w => if w = 0 then t else if w = 1 then z1 else if w = 2 then z2 else 0
def pU2 (tx : F1) (n : Nat) (t : Int) (p : Nat) : (Nat × F1) ⊕ (Int × Nat) := match pnF tx n (-48) 48 p with
  | .inl (e1, z1) => (match pnF tx n (-48) 48 e1 with | .inl (e2, z2) => .inl (e2, vUF t z1 z2) | .inr x => .inr x)
  | .inr x => .inr x
abbrev paF (tx : F1) (n : Nat) (d : F1) (a : Nat) : Int := fnd (fun r => d (r + 461)) (wdF tx n a) (d 11).toNat 0
/-- a use whose name stands at a; st: a word behind it that is no 'at' is an error at once -/
def pUs (st : Bool) (tx : F1) (n : Nat) (d : F1) (a : Nat) : (Nat × F1) ⊕ (Int × Nat) :=
  if wdF tx n a = 0 then .inr (-2, a) else if paF tx n d a = -1 then .inr (-3, a)
  else if kdF tx n (spF tx n (leF tx n a)) = 0 then
    (if wdF tx n (spF tx n (leF tx n a)) = 52 then pU2 tx n (paF tx n d a) (leF tx n (spF tx n (leF tx n a)))
     else if st = true then .inr (-2, spF tx n (leF tx n a)) else .inl (spF tx n (leF tx n a), vUF (paF tx n d a) 0 0))
  else .inl (spF tx n (leF tx n a), vUF (paF tx n d a) 0 0)
theorem kd_at {tx : F1} {n r : Nat} : kdF tx n r = 0 ↔ 97 ≤ atF tx n r ∧ atF tx n r ≤ 122 := kd_0.trans atF_le.symm
theorem vU_1 (t : Int) : upd1 (fun _ => 0) 0 t = vUF t 0 0 := by
  funext w; unfold upd1 vUF; split <;> (try split) <;> (try split) <;> rfl
theorem vU_2 (t z : Int) : upd1 (vUF t 0 0) 1 z = vUF t z 0 := by
  funext w; unfold upd1 vUF
  by_cases h : w = 1
  · rw [if_pos h, if_neg (by omega), if_pos h]
  · rw [if_neg h, if_neg h, if_neg h]
theorem vU_3 (t y z : Int) : upd1 (vUF t y 0) 2 z = vUF t y z := by
  funext w; unfold upd1 vUF
  by_cases h : w = 2
  · rw [if_pos h, if_neg (by omega), if_neg (by omega), if_pos h]
  · rw [if_neg h, if_neg h, if_neg h]
theorem fnd_rng (f : Nat → Int) (x : Int) : ∀ (m r : Nat), fnd f x m r = -1 ∨ ∃ k, r ≤ k ∧ k < r + m ∧ fnd f x m r = (k : Int) ∧ f k = x
  | 0, r => Or.inl rfl
  | m + 1, r => by
    by_cases h : f r = x
    · right; exact ⟨r, Nat.le_refl _, by omega, by unfold fnd; rw [if_pos h], h⟩
    · have hh : fnd f x (m + 1) r = fnd f x m (r + 1) := by show (if f r = x then _ else _) = _; rw [if_neg h]
      rw [hh]
      rcases fnd_rng f x m (r + 1) with q | ⟨k, k1, k2, k3, k4⟩
      · exact Or.inl q
      · exact Or.inr ⟨k, by omega, by omega, k3, k4⟩
theorem onlyI.e {R : Nat} {I0 I : F2} {c s : Int} (h : onlyI R I0 I) : onlyI R I0 (up2 (up2 I 111 6 c) 111 7 s) := ⟨fun a h1 h2 h3 => by rw [up2_row _ _ _ _ h1, up2_row _ _ _ _ h1]; exact h.1 a h1 h2 h3, by rw [up2_ne2 _ _ _ _ (by decide), up2_ne2 _ _ _ _ (by decide)]; exact h.2⟩
theorem sp_readUse (X : AX) (I J : Nat → Nat → Int) (cc ss : Nat) (i c : Nat) {tx : F1} {n : Nat} (hT : TB I tx n) (hn : I 111 2 = (n : Int)) (q : Nat) (hp : I 111 3 = (q : Int)) (hkn : q ≤ n) {e : F1} (dI : IRep I J 122 e) (dP : PRep I J 118 e) (hwpe : WP e) (hIK : IK e i) (hc : e (19 * i + 309) = (c : Int)) (hc6 : c < 6) : Ev X k_X4_readUse (0, [some (vr 111), some (vi (i : Int)), none, none, none, none, none], []) (MS I J cc ss) (PZ cc ss (fun z I' J' => J' = J ∧ CI (fun I d => IRep I J 122 d) 122 I I' n (puU e i c) (pUs true tx n e (spF tx n q)) z)) := by
  refine ev_n (fr' := (1, [some (vr 111), some (vi (i : Int)), none, none, none, none, none], [vr 111])) (S' := MS I J cc ss) 1 rfl ?_
  refine ev_cp rfl rfl rfl ⟨Nat.le_of_ble_eq_true rfl, Nat.le_of_ble_eq_true rfl⟩ (sp_readWord X _ _ _ _ hT hn q hp hkn) (fun I1 J q2 => ?_)
  obtain ⟨rfl, rAI1, rBI1, hp, hq4⟩ := q2
  show Ev X k_X4_readUse (4, [some (vr 111), some (vi (i : Int)), none, none, none, none, none], [vl (wdF tx n (spF tx n q))]) (MS I1 J cc ss) _
  have hn := (rBI1 2 (by decide) (by decide)).trans hn
  have hT := hT.cell (rAI1 112 (by decide)) (rAI1 113 (by decide))
  have hkn := leF_le (tx := tx) (n := n) (spF tx n q) (spF_le (tx := tx) (n := n) q hkn)
  have hO := (rw_T rAI1 rBI1).i (R := 122)
  have h70 := rBI1 7 (by decide) (by decide)
  have dI := dI.t (by decide) (rw_T rAI1 rBI1)
  have dP := dP.t (by decide) (rw_T rAI1 rBI1)
  refine ev_n (fr' := (7, [some (vr 111), some (vi (i : Int)), some (vl (wdF tx n (spF tx n q))), none, none, none, none], [vl 0, vl (wdF tx n (spF tx n q))])) (S' := MS I1 J cc ss) 3 rfl ?_
  refine ev_lc (c := .ne) (off := 14) rfl rfl (by decide) (fun (g1 : (wdF tx n (spF tx n q)) ≠ 0) => ?_) (fun (g1 : ¬ ((wdF tx n (spF tx n q)) ≠ 0)) => ?_)
  · show Ev X k_X4_readUse (22, [some (vr 111), some (vi (i : Int)), some (vl (wdF tx n (spF tx n q))), none, none, none, none], []) (MS I1 J cc ss) _
    refine ev_n (fr' := (30, [some (vr 111), some (vi (i : Int)), some (vl (wdF tx n (spF tx n q))), none, none, none, none], [vl (wdF tx n (spF tx n q)), vr 118])) (S' := MS I1 J cc ss) 4 rfl ?_
    refine ev_cv rfl rfl rfl ⟨Nat.le_of_ble_eq_true rfl, Nat.le_of_ble_eq_true rfl⟩ (sp_find_118 X _ _ _ _ (wdF tx n (spF tx n q)) dP hwpe) ?_
    show Ev X k_X4_readUse (33, [some (vr 111), some (vi (i : Int)), some (vl (wdF tx n (spF tx n q))), none, none, none, none], [vi (paF tx n e (spF tx n q))]) (MS I1 J cc ss) _
    have hfr := fnd_rng (fun r => e (r + 461)) (wdF tx n (spF tx n q)) (e 11).toNat 0
    refine ev_n (fr' := (38, [some (vr 111), some (vi (i : Int)), some (vl (wdF tx n (spF tx n q))), none, some (vi (paF tx n e (spF tx n q))), none, none], [vi (-1), vi (paF tx n e (spF tx n q))])) (S' := MS I1 J cc ss) 3 rfl ?_
    refine ev_ic (c := .ne) (off := 14) rfl (by decide) (fun (g2 : (paF tx n e (spF tx n q)) ≠ -1) => ?_) (fun (g2 : ¬ ((paF tx n e (spF tx n q)) ≠ -1)) => ?_)
    · show Ev X k_X4_readUse (52, [some (vr 111), some (vi (i : Int)), some (vl (wdF tx n (spF tx n q))), none, some (vi (paF tx n e (spF tx n q))), none, none], []) (MS I1 J cc ss) _
      refine ev_n (fr' := (60, [some (vr 111), some (vi (i : Int)), some (vl (wdF tx n (spF tx n q))), none, some (vi (paF tx n e (spF tx n q))), none, none], [vi (i : Int), vr 122])) (S' := MS I1 J cc ss) 4 rfl ?_
      refine ev_cp rfl rfl rfl ⟨Nat.le_of_ble_eq_true rfl, Nat.le_of_ble_eq_true rfl⟩ (sp_addItem_122 X _ _ _ _ i c dI hIK.1 hIK.2.1 hIK.2.2 hc hc6) (fun I3 J q4 => ?_)
      obtain ⟨rfl, rR, dI⟩ := q4
      show Ev X k_X4_readUse (63, [some (vr 111), some (vi (i : Int)), some (vl (wdF tx n (spF tx n q))), none, some (vi (paF tx n e (spF tx n q))), none, none], [vi (c : Int)]) (MS I3 J cc ss) _
      rw [puU_0] at dI
      have hIK9 := hIK.pu (v := fun _ => 0) hc6
      have hi9 := hIK.2.2
      have hi8 := hIK.1
      have hO := hO.trans (rR.i (by decide))
      have hp := (congrFun (rR 111 (by decide) (by decide)) _).trans hp
      have hn := (congrFun (rR 111 (by decide) (by decide)) _).trans hn
      have hT := hT.cell (rR 112 (by decide) (by decide)) (rR 113 (by decide) (by decide))
      have h70 := (congrFun (rR 111 (by decide) (by decide)) _).trans h70
      refine ev_n (fr' := (78, [some (vr 111), some (vi (i : Int)), some (vl (wdF tx n (spF tx n q))), none, some (vi (paF tx n e (spF tx n q))), some (vi (c : Int)), none], [vi (paF tx n e (spF tx n q)), vi 0, vi (c : Int), vi (i : Int), vr 122])) (S' := MS I3 J cc ss) 8 rfl ?_
      refine ev_cv rfl rfl rfl ⟨Nat.le_of_ble_eq_true rfl, Nat.le_of_ble_eq_true rfl⟩ (sp_putNumber_122 X _ _ _ _ i c 0 (paF tx n e (spF tx n q)) dI hIK9.1 hIK9.2.1 hIK9.2.2 (by rw [puU_cnt]; omega) (by omega)) ?_
      show Ev X k_X4_readUse (81, [some (vr 111), some (vi (i : Int)), some (vl (wdF tx n (spF tx n q))), none, some (vi (paF tx n e (spF tx n q))), some (vi (c : Int)), none], []) (MS (up2 I3 125 (18 * i + 3 * c) (paF tx n e (spF tx n q))) J cc ss) _
      have dI := IRep.put (v := (paF tx n e (spF tx n q))) (s := c) (w := 0) dI hIK9.2.2 hIK9.1 hIK9.2.1 (by rw [puU_cnt]; omega) (by omega)
      rw [puU_upd (w := 0) (by omega), vU_1] at dI
      have hIK9 := hIK.pu (v := (vUF (paF tx n e (spF tx n q)) 0 0)) hc6
      have hO : onlyI 122 I (up2 I3 125 (18 * i + 3 * c) (paF tx n e (spF tx n q))) := ⟨fun a h1 h2 h3 => (up2_row _ _ _ _ h3).trans (hO.1 a h1 h2 h3), (congrFun (up2_row _ _ _ _ (by decide)) _).trans hO.2⟩
      have hp := ((congrFun (up2_row _ _ _ _ (by decide)) _) : (up2 I3 125 (18 * i + 3 * c) (paF tx n e (spF tx n q))) 111 3 = _).trans hp
      have hn := ((congrFun (up2_row _ _ _ _ (by decide)) _) : (up2 I3 125 (18 * i + 3 * c) (paF tx n e (spF tx n q))) 111 2 = _).trans hn
      have hT : TB (up2 I3 125 (18 * i + 3 * c) (paF tx n e (spF tx n q))) tx n := hT.cell (up2_row _ _ _ _ (by decide)) (up2_row _ _ _ _ (by decide))
      have h70 := ((congrFun (up2_row _ _ _ _ (by decide)) _) : (up2 I3 125 (18 * i + 3 * c) (paF tx n e (spF tx n q))) 111 7 = _).trans h70
      refine ev_n (fr' := (82, [some (vr 111), some (vi (i : Int)), some (vl (wdF tx n (spF tx n q))), none, some (vi (paF tx n e (spF tx n q))), some (vi (c : Int)), none], [vr 111])) (S' := MS (up2 I3 125 (18 * i + 3 * c) (paF tx n e (spF tx n q))) J cc ss) 1 rfl ?_
      refine ev_cp rfl rfl rfl ⟨Nat.le_of_ble_eq_true rfl, Nat.le_of_ble_eq_true rfl⟩ (sp_peek X _ _ _ _ hT hn ((leF tx n (spF tx n q))) hp hkn) (fun I5 J q6 => ?_)
      obtain ⟨rfl, rAI5, rBI5, hp⟩ := q6
      show Ev X k_X4_readUse (85, [some (vr 111), some (vi (i : Int)), some (vl (wdF tx n (spF tx n q))), none, some (vi (paF tx n e (spF tx n q))), some (vi (c : Int)), none], [vi (atF tx n (spF tx n ((leF tx n (spF tx n q)))))]) (MS I5 J cc ss) _
      have hn := (rBI5 2 (by decide)).trans hn
      have hT := hT.cell (rAI5 112 (by decide)) (rAI5 113 (by decide))
      have hkn := spF_le (tx := tx) (n := n) ((leF tx n (spF tx n q))) hkn
      have hT1 := pk_T rAI5 rBI5
      have hO := hO.trans hT1.i
      have dI := dI.t (by decide) hT1
      have h70 := (rBI5 7 (by decide)).trans h70
      refine ev_cv rfl rfl rfl ⟨Nat.le_of_ble_eq_true rfl, Nat.le_of_ble_eq_true rfl⟩ (sp_c_isLetter X _ (atF tx n (spF tx n ((leF tx n (spF tx n q))))) ) ?_
      show Ev X k_X4_readUse (88, [some (vr 111), some (vi (i : Int)), some (vl (wdF tx n (spF tx n q))), none, some (vi (paF tx n e (spF tx n q))), some (vi (c : Int)), none], [vi (if 97 ≤ (atF tx n (spF tx n ((leF tx n (spF tx n q))))) ∧ (atF tx n (spF tx n ((leF tx n (spF tx n q))))) ≤ 122 then 1 else 0)]) (MS I5 J cc ss) _
      refine ev_bne _ rfl (by decide) (fun (g3 : 97 ≤ (atF tx n (spF tx n ((leF tx n (spF tx n q))))) ∧ (atF tx n (spF tx n ((leF tx n (spF tx n q))))) ≤ 122) => ?_) (fun (g3 : ¬ (97 ≤ (atF tx n (spF tx n ((leF tx n (spF tx n q))))) ∧ (atF tx n (spF tx n ((leF tx n (spF tx n q))))) ≤ 122)) => ?_)
      · show Ev X k_X4_readUse (93, [some (vr 111), some (vi (i : Int)), some (vl (wdF tx n (spF tx n q))), none, some (vi (paF tx n e (spF tx n q))), some (vi (c : Int)), none], []) (MS I5 J cc ss) _
        have hlt := g3
        refine ev_n (fr' := (94, [some (vr 111), some (vi (i : Int)), some (vl (wdF tx n (spF tx n q))), none, some (vi (paF tx n e (spF tx n q))), some (vi (c : Int)), none], [vr 111])) (S' := MS I5 J cc ss) 1 rfl ?_
        refine ev_cp rfl rfl rfl ⟨Nat.le_of_ble_eq_true rfl, Nat.le_of_ble_eq_true rfl⟩ (sp_readWordA X _ _ _ _ hT hn (spF tx n (leF tx n (spF tx n q))) hp hkn spF_idem) (fun I7 J q8 => ?_)
        obtain ⟨rfl, rAI7, rBI7, hp, hq4⟩ := q8
        show Ev X k_X4_readUse (97, [some (vr 111), some (vi (i : Int)), some (vl (wdF tx n (spF tx n q))), none, some (vi (paF tx n e (spF tx n q))), some (vi (c : Int)), none], [vl (wdF tx n (spF tx n (leF tx n (spF tx n q))))]) (MS I7 J cc ss) _
        have hT2 := rw_T rAI7 rBI7
        have hn := hT2.2.trans hn
        have hT := hT.t hT2
        have hkn := leF_le (tx := tx) (n := n) (spF tx n (leF tx n (spF tx n q))) hkn
        have hO := hO.trans hT2.i
        have dI := dI.t (by decide) hT2
        have h70 := (rBI7 7 (by decide) (by decide)).trans h70
        refine ev_n (fr' := (100, [some (vr 111), some (vi (i : Int)), some (vl (wdF tx n (spF tx n q))), none, some (vi (paF tx n e (spF tx n q))), some (vi (c : Int)), none], [vl 52, vl (wdF tx n (spF tx n (leF tx n (spF tx n q))))])) (S' := MS I7 J cc ss) 1 rfl ?_
        refine ev_lc (c := .eq) (off := 14) rfl rfl (by decide) (fun (g4 : (wdF tx n (spF tx n (leF tx n (spF tx n q)))) = 52) => ?_) (fun (g4 : ¬ ((wdF tx n (spF tx n (leF tx n (spF tx n q)))) = 52)) => ?_)
        · show Ev X k_X4_readUse (115, [some (vr 111), some (vi (i : Int)), some (vl (wdF tx n (spF tx n q))), none, some (vi (paF tx n e (spF tx n q))), some (vi (c : Int)), none], []) (MS I7 J cc ss) _
          refine ev_n (fr' := (129, [some (vr 111), some (vi (i : Int)), some (vl (wdF tx n (spF tx n q))), none, some (vi (paF tx n e (spF tx n q))), some (vi (c : Int)), some (vi 1)], [vi 48, vi (-48), vr 111])) (S' := MS I7 J cc ss) 8 rfl ?_
          refine ev_cz rfl rfl rfl ⟨Nat.le_of_ble_eq_true rfl, Nat.le_of_ble_eq_true rfl⟩ (sp_readNumber_s X _ _ _ _ (-48) 48 (by omega) (by omega) hT hn ((leF tx n (spF tx n (leF tx n (spF tx n q))))) hp hkn (by omega)) (fun z1 I9 J q10 => ?_)
          obtain ⟨rfl, rT1, hz9⟩ := q10
          rcases hr1 : pnF tx n (-48) 48 ((leF tx n (spF tx n (leF tx n (spF tx n q))))) with ⟨e1, v1⟩ | ⟨c1, s1⟩ <;> rw [hr1] at hz9
          · obtain ⟨rfl, hp, hv1, hkn, h71, hq41⟩ := hz9
            have hn := rT1.2.trans hn
            have hT := hT.t rT1
            have hO := hO.trans rT1.i
            have dI := dI.t (by decide) rT1
            have h70 := h71.trans h70
            show Ev X k_X4_readUse (132, [some (vr 111), some (vi (i : Int)), some (vl (wdF tx n (spF tx n q))), none, some (vi (paF tx n e (spF tx n q))), some (vi (c : Int)), some (vi 1)], [vi 1]) (MS I9 J cc ss) _
            refine ev_n (fr' := (153, [some (vr 111), some (vi (i : Int)), some (vl (wdF tx n (spF tx n q))), none, some (vi (paF tx n e (spF tx n q))), some (vi (c : Int)), some (vi 1)], [vi (I9 111 5), vi 1, vi (c : Int), vi (i : Int), vr 122])) (S' := MS I9 J cc ss) 9 rfl ?_
            refine ev_eqi (hv1) ?_
            show Ev X k_X4_readUse (153, [some (vr 111), some (vi (i : Int)), some (vl (wdF tx n (spF tx n q))), none, some (vi (paF tx n e (spF tx n q))), some (vi (c : Int)), some (vi 1)], [vi v1, vi 1, vi (c : Int), vi (i : Int), vr 122]) (MS I9 J cc ss) _
            refine ev_cv rfl rfl rfl ⟨Nat.le_of_ble_eq_true rfl, Nat.le_of_ble_eq_true rfl⟩ (sp_putNumber_122 X _ _ _ _ i c 1 v1 dI hIK9.1 hIK9.2.1 hIK9.2.2 (by rw [puU_cnt]; omega) (by omega)) ?_
            show Ev X k_X4_readUse (156, [some (vr 111), some (vi (i : Int)), some (vl (wdF tx n (spF tx n q))), none, some (vi (paF tx n e (spF tx n q))), some (vi (c : Int)), some (vi 1)], []) (MS (up2 I9 125 (18 * i + 3 * c + 1) v1) J cc ss) _
            have dI := IRep.put (v := v1) (s := c) (w := 1) dI hIK9.2.2 hIK9.1 hIK9.2.1 (by rw [puU_cnt]; omega) (by omega)
            rw [puU_upd (w := 1) (by omega), vU_2] at dI
            have hIK9 := hIK.pu (v := (vUF (paF tx n e (spF tx n q)) v1 0)) hc6
            have hO : onlyI 122 I (up2 I9 125 (18 * i + 3 * c + 1) v1) := ⟨fun a h1 h2 h3 => (up2_row _ _ _ _ h3).trans (hO.1 a h1 h2 h3), (congrFun (up2_row _ _ _ _ (by decide)) _).trans hO.2⟩
            have hp := ((congrFun (up2_row _ _ _ _ (by decide)) _) : (up2 I9 125 (18 * i + 3 * c + 1) v1) 111 3 = _).trans hp
            have hn := ((congrFun (up2_row _ _ _ _ (by decide)) _) : (up2 I9 125 (18 * i + 3 * c + 1) v1) 111 2 = _).trans hn
            have hT : TB (up2 I9 125 (18 * i + 3 * c + 1) v1) tx n := hT.cell (up2_row _ _ _ _ (by decide)) (up2_row _ _ _ _ (by decide))
            have h70 := ((congrFun (up2_row _ _ _ _ (by decide)) _) : (up2 I9 125 (18 * i + 3 * c + 1) v1) 111 7 = _).trans h70
            refine ev_n (fr' := (129, [some (vr 111), some (vi (i : Int)), some (vl (wdF tx n (spF tx n q))), none, some (vi (paF tx n e (spF tx n q))), some (vi (c : Int)), some (vi 2)], [vi 48, vi (-48), vr 111])) (S' := MS (up2 I9 125 (18 * i + 3 * c + 1) v1) J cc ss) 8 rfl ?_
            refine ev_cz rfl rfl rfl ⟨Nat.le_of_ble_eq_true rfl, Nat.le_of_ble_eq_true rfl⟩ (sp_readNumber_s X _ _ _ _ (-48) 48 (by omega) (by omega) hT hn e1 hp hkn (by omega)) (fun z2 I11 J q12 => ?_)
            obtain ⟨rfl, rT2, hz9⟩ := q12
            rcases hr2 : pnF tx n (-48) 48 e1 with ⟨e2, v2⟩ | ⟨c2, s2⟩ <;> rw [hr2] at hz9
            · obtain ⟨rfl, hp, hv2, hkn, h72, hq42⟩ := hz9
              have hn := rT2.2.trans hn
              have hT := hT.t rT2
              have hO := hO.trans rT2.i
              have dI := dI.t (by decide) rT2
              have h70 := h72.trans h70
              show Ev X k_X4_readUse (132, [some (vr 111), some (vi (i : Int)), some (vl (wdF tx n (spF tx n q))), none, some (vi (paF tx n e (spF tx n q))), some (vi (c : Int)), some (vi 2)], [vi 1]) (MS I11 J cc ss) _
              refine ev_n (fr' := (153, [some (vr 111), some (vi (i : Int)), some (vl (wdF tx n (spF tx n q))), none, some (vi (paF tx n e (spF tx n q))), some (vi (c : Int)), some (vi 2)], [vi (I11 111 5), vi 2, vi (c : Int), vi (i : Int), vr 122])) (S' := MS I11 J cc ss) 9 rfl ?_
              refine ev_eqi (hv2) ?_
              show Ev X k_X4_readUse (153, [some (vr 111), some (vi (i : Int)), some (vl (wdF tx n (spF tx n q))), none, some (vi (paF tx n e (spF tx n q))), some (vi (c : Int)), some (vi 2)], [vi v2, vi 2, vi (c : Int), vi (i : Int), vr 122]) (MS I11 J cc ss) _
              refine ev_cv rfl rfl rfl ⟨Nat.le_of_ble_eq_true rfl, Nat.le_of_ble_eq_true rfl⟩ (sp_putNumber_122 X _ _ _ _ i c 2 v2 dI hIK9.1 hIK9.2.1 hIK9.2.2 (by rw [puU_cnt]; omega) (by omega)) ?_
              show Ev X k_X4_readUse (156, [some (vr 111), some (vi (i : Int)), some (vl (wdF tx n (spF tx n q))), none, some (vi (paF tx n e (spF tx n q))), some (vi (c : Int)), some (vi 2)], []) (MS (up2 I11 125 (18 * i + 3 * c + 2) v2) J cc ss) _
              have dI := IRep.put (v := v2) (s := c) (w := 2) dI hIK9.2.2 hIK9.1 hIK9.2.1 (by rw [puU_cnt]; omega) (by omega)
              rw [puU_upd (w := 2) (by omega), vU_3] at dI
              have hIK9 := hIK.pu (v := (vUF (paF tx n e (spF tx n q)) v1 v2)) hc6
              have hO : onlyI 122 I (up2 I11 125 (18 * i + 3 * c + 2) v2) := ⟨fun a h1 h2 h3 => (up2_row _ _ _ _ h3).trans (hO.1 a h1 h2 h3), (congrFun (up2_row _ _ _ _ (by decide)) _).trans hO.2⟩
              have hp := ((congrFun (up2_row _ _ _ _ (by decide)) _) : (up2 I11 125 (18 * i + 3 * c + 2) v2) 111 3 = _).trans hp
              have hn := ((congrFun (up2_row _ _ _ _ (by decide)) _) : (up2 I11 125 (18 * i + 3 * c + 2) v2) 111 2 = _).trans hn
              have hT : TB (up2 I11 125 (18 * i + 3 * c + 2) v2) tx n := hT.cell (up2_row _ _ _ _ (by decide)) (up2_row _ _ _ _ (by decide))
              have h70 := ((congrFun (up2_row _ _ _ _ (by decide)) _) : (up2 I11 125 (18 * i + 3 * c + 2) v2) 111 7 = _).trans h70
              refine ev_n (fr' := (163, [some (vr 111), some (vi (i : Int)), some (vl (wdF tx n (spF tx n q))), none, some (vi (paF tx n e (spF tx n q))), some (vi (c : Int)), some (vi 3)], [vi 1])) (S' := MS (up2 I11 125 (18 * i + 3 * c + 2) v2) J cc ss) 6 rfl ?_
              refine ev_r rfl rfl rfl ?_
              have hX0 : pUs true tx n e (spF tx n q) = pU2 tx n (paF tx n e (spF tx n q)) (leF tx n (spF tx n (leF tx n (spF tx n q)))) := by
                unfold pUs; rw [if_neg (by omega), if_neg (by omega), if_pos (kd_at.mpr hlt), if_pos (by omega)]
              have hX : pU2 tx n (paF tx n e (spF tx n q)) (leF tx n (spF tx n (leF tx n (spF tx n q)))) = .inl (e2, vUF (paF tx n e (spF tx n q)) v1 v2) := by unfold pU2; rw [hr1]; simp only [hr2]
              exact ⟨_, _, _, rfl, rfl, rfl, hO, by rw [hX0, hX]; exact ⟨rfl, hp, hkn, h70, dI⟩⟩
            · obtain ⟨rfl, hE⟩ := hz9
              have hO := hO.trans rT2.i
              show Ev X k_X4_readUse (132, [some (vr 111), some (vi (i : Int)), some (vl (wdF tx n (spF tx n q))), none, some (vi (paF tx n e (spF tx n q))), some (vi (c : Int)), some (vi 2)], [vi 0]) (MS I11 J cc ss) _
              refine ev_n (fr' := (136, [some (vr 111), some (vi (i : Int)), some (vl (wdF tx n (spF tx n q))), none, some (vi (paF tx n e (spF tx n q))), some (vi (c : Int)), some (vi 2)], [vi 0])) (S' := MS I11 J cc ss) 2 rfl ?_
              refine ev_r rfl rfl rfl ?_
              have hX0 : pUs true tx n e (spF tx n q) = pU2 tx n (paF tx n e (spF tx n q)) (leF tx n (spF tx n (leF tx n (spF tx n q)))) := by
                unfold pUs; rw [if_neg (by omega), if_neg (by omega), if_pos (kd_at.mpr hlt), if_pos (by omega)]
              have hX : pU2 tx n (paF tx n e (spF tx n q)) (leF tx n (spF tx n (leF tx n (spF tx n q)))) = .inr (c2, s2) := by unfold pU2; rw [hr1]; simp only [hr2]
              exact ⟨_, _, _, rfl, rfl, rfl, hO, by rw [hX0, hX]; exact ⟨rfl, hE⟩⟩
          · obtain ⟨rfl, hE⟩ := hz9
            have hO := hO.trans rT1.i
            show Ev X k_X4_readUse (132, [some (vr 111), some (vi (i : Int)), some (vl (wdF tx n (spF tx n q))), none, some (vi (paF tx n e (spF tx n q))), some (vi (c : Int)), some (vi 1)], [vi 0]) (MS I9 J cc ss) _
            refine ev_n (fr' := (136, [some (vr 111), some (vi (i : Int)), some (vl (wdF tx n (spF tx n q))), none, some (vi (paF tx n e (spF tx n q))), some (vi (c : Int)), some (vi 1)], [vi 0])) (S' := MS I9 J cc ss) 2 rfl ?_
            refine ev_r rfl rfl rfl ?_
            have hX0 : pUs true tx n e (spF tx n q) = pU2 tx n (paF tx n e (spF tx n q)) (leF tx n (spF tx n (leF tx n (spF tx n q)))) := by
              unfold pUs; rw [if_neg (by omega), if_neg (by omega), if_pos (kd_at.mpr hlt), if_pos (by omega)]
            have hX : pU2 tx n (paF tx n e (spF tx n q)) (leF tx n (spF tx n (leF tx n (spF tx n q)))) = .inr (c1, s1) := by unfold pU2; rw [hr1]
            exact ⟨_, _, _, rfl, rfl, rfl, hO, by rw [hX0, hX]; exact ⟨rfl, hE⟩⟩
        · show Ev X k_X4_readUse (104, [some (vr 111), some (vi (i : Int)), some (vl (wdF tx n (spF tx n q))), none, some (vi (paF tx n e (spF tx n q))), some (vi (c : Int)), none], []) (MS I7 J cc ss) _
          refine ev_n (fr' := (111, [some (vr 111), some (vi (i : Int)), some (vl (wdF tx n (spF tx n q))), none, some (vi (paF tx n e (spF tx n q))), some (vi (c : Int)), none], [vi (I7 111 4), vi (-2), vr 111])) (S' := MS I7 J cc ss) 4 rfl ?_
          refine ev_eqi (hq4) ?_
          show Ev X k_X4_readUse (111, [some (vr 111), some (vi (i : Int)), some (vl (wdF tx n (spF tx n q))), none, some (vi (paF tx n e (spF tx n q))), some (vi (c : Int)), none], [vi ((spF tx n (leF tx n (spF tx n q))) : Int), vi (-2), vr 111]) (MS I7 J cc ss) _
          refine ev_cv rfl rfl rfl ⟨Nat.le_of_ble_eq_true rfl, Nat.le_of_ble_eq_true rfl⟩ (sp_fail X _ _ _ _ (-2) ((spF tx n (leF tx n (spF tx n q))) : Int)) ?_
          show Ev X k_X4_readUse (114, [some (vr 111), some (vi (i : Int)), some (vl (wdF tx n (spF tx n q))), none, some (vi (paF tx n e (spF tx n q))), some (vi (c : Int)), none], [vi 0]) (MS (up2 (up2 I7 111 6 (-2)) 111 7 ((spF tx n (leF tx n (spF tx n q))) : Int)) J cc ss) _
          refine ev_r rfl rfl rfl ?_
          have hX : pUs true tx n e (spF tx n q) = .inr (-2, (spF tx n (leF tx n (spF tx n q)))) := by
            unfold pUs; rw [if_neg (by omega), if_neg (by omega), if_pos (kd_at.mpr hlt), if_neg (by omega), if_pos rfl]
          exact ⟨_, _, _, rfl, rfl, rfl, hO.e, by rw [hX]; exact ⟨rfl, ER.mk⟩⟩
      · show Ev X k_X4_readUse (91, [some (vr 111), some (vi (i : Int)), some (vl (wdF tx n (spF tx n q))), none, some (vi (paF tx n e (spF tx n q))), some (vi (c : Int)), none], []) (MS I5 J cc ss) _
        refine ev_n (fr' := (92, [some (vr 111), some (vi (i : Int)), some (vl (wdF tx n (spF tx n q))), none, some (vi (paF tx n e (spF tx n q))), some (vi (c : Int)), none], [vi 1])) (S' := MS I5 J cc ss) 1 rfl ?_
        refine ev_r rfl rfl rfl ?_
        have hX : pUs true tx n e (spF tx n q) = .inl ((spF tx n (leF tx n (spF tx n q))), vUF (paF tx n e (spF tx n q)) 0 0) := by
          unfold pUs; rw [if_neg (by omega), if_neg (by omega), if_neg (fun h => g3 (kd_at.mp h))]
        exact ⟨_, _, _, rfl, rfl, rfl, hO, by rw [hX]; exact ⟨rfl, hp, hkn, h70, dI⟩⟩
    · show Ev X k_X4_readUse (41, [some (vr 111), some (vi (i : Int)), some (vl (wdF tx n (spF tx n q))), none, some (vi (paF tx n e (spF tx n q))), none, none], []) (MS I1 J cc ss) _
      refine ev_n (fr' := (48, [some (vr 111), some (vi (i : Int)), some (vl (wdF tx n (spF tx n q))), none, some (vi (paF tx n e (spF tx n q))), none, none], [vi (I1 111 4), vi (-3), vr 111])) (S' := MS I1 J cc ss) 4 rfl ?_
      refine ev_eqi (hq4) ?_
      show Ev X k_X4_readUse (48, [some (vr 111), some (vi (i : Int)), some (vl (wdF tx n (spF tx n q))), none, some (vi (paF tx n e (spF tx n q))), none, none], [vi ((spF tx n q) : Int), vi (-3), vr 111]) (MS I1 J cc ss) _
      refine ev_cv rfl rfl rfl ⟨Nat.le_of_ble_eq_true rfl, Nat.le_of_ble_eq_true rfl⟩ (sp_fail X _ _ _ _ (-3) ((spF tx n q) : Int)) ?_
      show Ev X k_X4_readUse (51, [some (vr 111), some (vi (i : Int)), some (vl (wdF tx n (spF tx n q))), none, some (vi (paF tx n e (spF tx n q))), none, none], [vi 0]) (MS (up2 (up2 I1 111 6 (-3)) 111 7 ((spF tx n q) : Int)) J cc ss) _
      refine ev_r rfl rfl rfl ?_
      have hX : pUs true tx n e (spF tx n q) = .inr (-3, (spF tx n q)) := by
        unfold pUs; rw [if_neg (by omega), if_pos (by omega)]
      exact ⟨_, _, _, rfl, rfl, rfl, hO.e, by rw [hX]; exact ⟨rfl, ER.mk⟩⟩
  · show Ev X k_X4_readUse (11, [some (vr 111), some (vi (i : Int)), some (vl (wdF tx n (spF tx n q))), none, none, none, none], []) (MS I1 J cc ss) _
    refine ev_n (fr' := (18, [some (vr 111), some (vi (i : Int)), some (vl (wdF tx n (spF tx n q))), none, none, none, none], [vi (I1 111 4), vi (-2), vr 111])) (S' := MS I1 J cc ss) 4 rfl ?_
    refine ev_eqi (hq4) ?_
    show Ev X k_X4_readUse (18, [some (vr 111), some (vi (i : Int)), some (vl (wdF tx n (spF tx n q))), none, none, none, none], [vi ((spF tx n q) : Int), vi (-2), vr 111]) (MS I1 J cc ss) _
    refine ev_cv rfl rfl rfl ⟨Nat.le_of_ble_eq_true rfl, Nat.le_of_ble_eq_true rfl⟩ (sp_fail X _ _ _ _ (-2) ((spF tx n q) : Int)) ?_
    show Ev X k_X4_readUse (21, [some (vr 111), some (vi (i : Int)), some (vl (wdF tx n (spF tx n q))), none, none, none, none], [vi 0]) (MS (up2 (up2 I1 111 6 (-2)) 111 7 ((spF tx n q) : Int)) J cc ss) _
    refine ev_r rfl rfl rfl ?_
    have hX : pUs true tx n e (spF tx n q) = .inr (-2, (spF tx n q)) := by
      unfold pUs; rw [if_pos (by omega)]
    exact ⟨_, _, _, rfl, rfl, rfl, hO.e, by rw [hX]; exact ⟨rfl, ER.mk⟩⟩
