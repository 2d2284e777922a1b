/-! THE CLASS reads sizes (printed by gen/g93.py) -/
noncomputable def plE (d : F1) (n : Nat) (x : Int) : Nat := Classical.epsilon (fun pl : Nat => pl ≤ n ∧ (∀ j, j < pl → d (2 * j + 1) < x) ∧ (pl = n ∨ x ≤ d (2 * pl + 1)))
theorem plE_eq {d : F1} {n : Nat} {x : Int} {pl : Nat} (h1 : pl ≤ n) (h2 : ∀ j, j < pl → d (2 * j + 1) < x) (h3 : pl = n ∨ x ≤ d (2 * pl + 1)) : plE d n x = pl := by
  have h := Classical.epsilon_spec (p := fun pl : Nat => pl ≤ n ∧ (∀ j, j < pl → d (2 * j + 1) < x) ∧ (pl = n ∨ x ≤ d (2 * pl + 1))) ⟨pl, h1, h2, h3⟩
  obtain ⟨a1, a2, a3⟩ : plE d n x ≤ n ∧ (∀ j, j < plE d n x → d (2 * j + 1) < x) ∧ (plE d n x = n ∨ x ≤ d (2 * plE d n x + 1)) := h
  rcases Nat.lt_trichotomy (plE d n x) pl with q | q | q
  · have := h2 _ q
    rcases a3 with e | e <;> omega
  · exact q
  · have := a2 _ q
    rcases h3 with e | e <;> omega
theorem WS.lt {g : F1} (hw : WS g) {n : Nat} (hn : g 0 = (n : Int)) : ∀ d i : Nat, i + d + 1 < n → g (2 * i + 1) < g (2 * (i + d + 1) + 1)
  | 0, i, h => by have := hw.2.2.2 i (by omega); rw [show 2 * (i + 0 + 1) + 1 = 2 * i + 3 by omega]; exact this
  | d + 1, i, h => by
    have h1 := WS.lt hw hn d i (by omega)
    have h2 := hw.2.2.2 (i + d + 1) (by omega)
    rw [show 2 * (i + d + 1) + 3 = 2 * (i + (d + 1) + 1) + 1 by omega] at h2
    omega
theorem fnd_none {f : Nat → Int} {x : Int} : ∀ (m r : Nat), fnd f x m r = -1 → ∀ k, r ≤ k → k < r + m → f k ≠ x
  | 0, r, _, k, h1, h2 => by omega
  | m + 1, r, h, k, h1, h2 => by
    by_cases h0 : f r = x
    · have hh : fnd f x (m + 1) r = (r : Int) := by show (if f r = x then _ else _) = _; rw [if_pos h0]
      omega
    · have hh : fnd f x (m + 1) r = fnd f x m (r + 1) := by show (if f r = x then _ else _) = _; rw [if_neg h0]
      by_cases e : k = r
      · rw [e]; exact h0
      · exact fnd_none m (r + 1) (hh ▸ h) k (by omega) (by omega)
theorem pl_cls {d : F1} {n : Nat} {x : Int} {pl : Nat} (hw : WS d) (hn : d 0 = (n : Int)) (hne : ∀ j, j < n → d (2 * j + 1) ≠ x) (h1 : pl ≤ n) (h2 : pl = 0 ∨ d (2 * (pl - 1) + 1) ≤ x) (h3 : ∀ j, pl ≤ j → j < n → x < d (2 * j + 1)) : (∀ j, j < pl → d (2 * j + 1) < x) ∧ (pl = n ∨ x ≤ d (2 * pl + 1)) := by
  refine ⟨fun j hj => ?_, ?_⟩
  · have h4 : d (2 * (pl - 1) + 1) ≤ x := by rcases h2 with q | q; omega; exact q
    have h5 := hne j (by omega)
    by_cases e : j = pl - 1
    · rw [e] at h5 ⊢; omega
    · have h6 := WS.lt hw hn (pl - 1 - j - 1) j (by omega)
      rw [show j + (pl - 1 - j - 1) + 1 = pl - 1 by omega] at h6
      omega
  · by_cases e : pl = n
    · exact Or.inl e
    · have := h3 pl (Nat.le_refl _) (by omega)
      right; omega
noncomputable def insE (d : F1) (x e : Int) : F1 := insF d (plE d (d 0).toNat x) (d 0).toNat x e
theorem insF_ext {d : F1} {pl n : Nat} {x z : Int} : upd1 (insF d pl n x 0) (2 * pl + 2) z = insF d pl n x z := by
  funext k
  unfold upd1 insF
  by_cases e : k = 2 * pl + 2
  · rw [if_pos e, if_neg (by omega), if_neg (by omega), if_pos e]
  · rw [if_neg e]
    by_cases e0 : k = 0
    · rw [if_pos e0, if_pos e0]
    · rw [if_neg e0, if_neg e0]
      by_cases e1 : k = 2 * pl + 1
      · rw [if_pos e1, if_pos e1]
      · rw [if_neg e1, if_neg e1, if_neg e, if_neg e]
theorem nsF_u {tx : F1} {n p : Nat} {lo : Int} (h : ¬ lo < 0) : nsF tx n p lo = spF tx n p := by unfold nsF ngB; rw [decide_eq_false h]; rfl
abbrev szF (d : F1) (x : Int) : Int := fnd (fun r => d (2 * r + 1)) x (d 0).toNat 0
/-- a size: word at a, number from p on -/
noncomputable def pSz (st : Bool) (tx : F1) (n : Nat) (d : F1) (a p : Nat) : (Nat × F1) ⊕ (Int × Nat) :=
  if 5 ≤ d 0 then .inr (-4, a) else match pnF tx n 4 32 p with
  | .inr x => .inr x
  | .inl (e, x) => if szF d x ≠ -1 then .inr (-3, spF tx n p)
    else if kdF tx n (spF tx n e) = 0 then
      (if wdF tx n (spF tx n e) = 6050369 then (match pnF tx n (-2) 2 (leF tx n (spF tx n e)) with | .inl (e2, x2) => .inl (e2, insE d x x2) | .inr y => .inr y)
       else if st = true then .inr (-2, spF tx n e) else .inl (spF tx n e, insE d x 0))
    else .inl (spF tx n e, insE d x 0)
noncomputable def pSz2 (st : Bool) (tx : F1) (n : Nat) (d : F1) (x : Int) (e p : Nat) : (Nat × F1) ⊕ (Int × Nat) := if szF d x ≠ -1 then .inr (-3, spF tx n p)
    else if kdF tx n (spF tx n e) = 0 then
      (if wdF tx n (spF tx n e) = 6050369 then (match pnF tx n (-2) 2 (leF tx n (spF tx n e)) with | .inl (e2, x2) => .inl (e2, insE d x x2) | .inr y => .inr y)
       else if st = true then .inr (-2, spF tx n e) else .inl (spF tx n e, insE d x 0))
    else .inl (spF tx n e, insE d x 0)
theorem pSz_1 {st : Bool} {tx : F1} {n : Nat} {d : F1} {a p e : Nat} {x : Int} (h : ¬ 5 ≤ d 0) (h2 : pnF tx n 4 32 p = .inl (e, x)) : pSz st tx n d a p = pSz2 st tx n d x e p := by
  unfold pSz; rw [if_neg h, h2]; rfl
def onlyZ (I I' : F2) : Prop := (∀ a, a ≠ 111 → a ≠ 115 → a ≠ 116 → a ≠ 117 → I' a = I a) ∧ I' 111 2 = I 111 2
theorem onlyZ.trans {I I' I2 : F2} (h : onlyZ I I') (h2 : onlyZ I' I2) : onlyZ I I2 := ⟨fun a h3 h4 h5 h6 => (h2.1 a h3 h4 h5 h6).trans (h.1 a h3 h4 h5 h6), h2.2.trans h.2⟩
theorem onlyZ.refl (I : F2) : onlyZ I I := ⟨fun _ _ _ _ _ => rfl, rfl⟩
theorem onlyT.z {I I' : F2} (h : onlyT I I') : onlyZ I I' := ⟨fun a h3 _ _ _ => h.1 a h3, h.2⟩
theorem onlyZ.e {I0 I : F2} {c s : Int} (h : onlyZ I0 I) : onlyZ I0 (up2 (up2 I 111 6 c) 111 7 s) := ⟨fun a h1 h2 h3 h4 => by rw [up2_row _ _ _ _ h1, up2_row _ _ _ _ h1]; exact h.1 a h1 h2 h3 h4, by rw [up2_ne2 _ _ _ _ (by decide), up2_ne2 _ _ _ _ (by decide)]; exact h.2⟩
def CSz (I I' : F2) (n : Nat) (r : (Nat × F1) ⊕ (Int × Nat)) (z : Int) : Prop := onlyZ I I' ∧ match r with
  | .inl (p, d') => z = 1 ∧ I' 111 3 = (p : Int) ∧ p ≤ n ∧ I' 111 7 = I 111 7 ∧ SRep I' 114 d'
  | .inr (c, s) => z = 0 ∧ ER I' c s
theorem SRep.t {I I' : F2} {g : F1} (h : SRep I 114 g) (e : onlyT I I') : SRep I' 114 g := by
  unfold SRep; rw [e.1 115 (by decide), e.1 116 (by decide), e.1 117 (by decide)]; exact h
theorem pnF_rng {tx : F1} {n p e : Nat} {lo hi v : Int} (h : pnF tx n lo hi p = .inl (e, v)) : lo ≤ v ∧ v ≤ hi := by
  have := pnU_ok h; exact ⟨this.1, this.2.1⟩
theorem sp_readSize (X : AX) (I J : Nat → Nat → Int) (cc ss : Nat) (a s : Nat) {tx : F1} {n : Nat} (hT : TB I tx n) (hn : I 111 2 = (n : Int)) (q : Nat) (hp : I 111 3 = (q : Int)) (hkn : q ≤ n) (hq4 : I 111 4 = (a : Int)) {d : F1} (dS : SRep I 114 d) (hws : WS d) (hd0 : d 0 = (s : Int)) : Ev X k_X4_readSize (0, [some (vr 111), none], []) (MS I J cc ss) (PZ cc ss (fun z I' J' => J' = J ∧ CSz I I' n (pSz true tx n d a q) z)) := by
  have hws1 := hws.2.1
  refine ev_n (fr' := (7, [some (vr 111), none], [vr 115])) (S' := MS I J cc ss) 3 rfl ?_
  refine ev_cv rfl rfl rfl ⟨Nat.le_of_ble_eq_true rfl, Nat.le_of_ble_eq_true rfl⟩ (sp_sIsFull_115 X _ _ _ _ dS) ?_
  show Ev X k_X4_readSize (10, [some (vr 111), none], [vi (if 5 ≤ d 0 then 1 else 0)]) (MS I J cc ss) _
  refine ev_beq _ rfl (by decide) (fun (g1 : ¬ (5 ≤ d 0)) => ?_) (fun (g1 : 5 ≤ d 0) => ?_)
  · show Ev X k_X4_readSize (24, [some (vr 111), none], []) (MS I J cc ss) _
    refine ev_n (fr' := (28, [some (vr 111), none], [vi 32, vi 4, vr 111])) (S' := MS I J cc ss) 3 rfl ?_
    refine ev_cz rfl rfl rfl ⟨Nat.le_of_ble_eq_true rfl, Nat.le_of_ble_eq_true rfl⟩ (sp_readNumber_u X _ _ _ _ 4 32 (by omega) (by omega) hT hn q hp hkn (by omega)) (fun z1 I1 J q2 => ?_)
    obtain ⟨rfl, rT1, hz9⟩ := q2
    rcases hr1 : pnF tx n 4 32 q with ⟨e1, v1⟩ | ⟨c1, s1⟩ <;> rw [hr1] at hz9
    · obtain ⟨rfl, hp, hv1, hkn, h71, hq41⟩ := hz9
      have hn := rT1.2.trans hn
      have hT := hT.t rT1
      have hO := rT1.z
      have dS := dS.t rT1
      have h70 := h71
      rw [nsF_u (by decide)] at hq41
      have hq4 := hq41
      have hx9 : 4 ≤ v1 ∧ v1 ≤ 32 := by have := pnF_rng hr1; omega
      show Ev X k_X4_readSize (31, [some (vr 111), none], [vi 1]) (MS I1 J cc ss) _
      refine ev_n (fr' := (47, [some (vr 111), none], [vi (I1 111 5), vr 115])) (S' := MS I1 J cc ss) 6 rfl ?_
      refine ev_eqi (hv1) ?_
      show Ev X k_X4_readSize (47, [some (vr 111), none], [vi v1, vr 115]) (MS I1 J cc ss) _
      refine ev_cv rfl rfl rfl ⟨Nat.le_of_ble_eq_true rfl, Nat.le_of_ble_eq_true rfl⟩ (sp_find_115 X _ _ _ _ v1 dS hws) ?_
      show Ev X k_X4_readSize (50, [some (vr 111), none], [vi (szF d v1)]) (MS I1 J cc ss) _
      have hfr := fnd_rng (fun r => d (2 * r + 1)) v1 (d 0).toNat 0
      refine ev_n (fr' := (51, [some (vr 111), none], [vi (-1), vi (szF d v1)])) (S' := MS I1 J cc ss) 1 rfl ?_
      refine ev_ic (c := .eq) (off := 14) rfl (by decide) (fun (g2 : (szF d v1) = -1) => ?_) (fun (g2 : ¬ ((szF d v1) = -1)) => ?_)
      · show Ev X k_X4_readSize (65, [some (vr 111), none], []) (MS I1 J cc ss) _
        refine ev_n (fr' := (76, [some (vr 111), none], [vi (I1 111 5), vr 115])) (S' := MS I1 J cc ss) 5 rfl ?_
        refine ev_eqi (hv1) ?_
        show Ev X k_X4_readSize (76, [some (vr 111), none], [vi v1, vr 115]) (MS I1 J cc ss) _
        refine ev_cz rfl rfl rfl ⟨Nat.le_of_ble_eq_true rfl, Nat.le_of_ble_eq_true rfl⟩ (sp_insert_114 X _ _ _ _ s v1 dS hd0 (by omega)) (fun z9 I3 J q4 => ?_)
        obtain ⟨rfl, r9, pl, hpl, hp1, hp2, hp3, dS⟩ := q4
        show Ev X k_X4_readSize (79, [some (vr 111), none], [vi z9]) (MS I3 J cc ss) _
        subst hpl
        have hO := hO.trans ⟨fun a _ h2 h3 h4 => r9 a h2 h3 h4, congrFun (r9 111 (by decide) (by decide) (by decide)) 2⟩
        have hp := (congrFun (r9 111 (by decide) (by decide) (by decide)) 3).trans hp
        have hn := (congrFun (r9 111 (by decide) (by decide) (by decide)) 2).trans hn
        have hT := hT.cell (r9 112 (by decide) (by decide) (by decide)) (r9 113 (by decide) (by decide) (by decide))
        have h70 := (congrFun (r9 111 (by decide) (by decide) (by decide)) 7).trans h70
        have hne : ∀ j, j < s → d (2 * j + 1) ≠ v1 := fun j hj => fnd_none (f := fun r => d (2 * r + 1)) _ 0 (by omega) j (by omega) (by omega)
        have hpc := pl_cls hws hd0 hne hp1 hp2 hp3
        have hpl := plE_eq hp1 hpc.1 hpc.2
        have hs9 : (d 0).toNat = s := by omega
        have hIE : ∀ z, insF d pl s v1 z = insE d v1 z := fun z => by unfold insE; rw [hs9, hpl]
        refine ev_n (fr' := (81, [some (vr 111), some (vi (pl : Int))], [vr 111])) (S' := MS I3 J cc ss) 2 rfl ?_
        refine ev_cp rfl rfl rfl ⟨Nat.le_of_ble_eq_true rfl, Nat.le_of_ble_eq_true rfl⟩ (sp_peek X _ _ _ _ hT hn e1 hp hkn) (fun I5 J q6 => ?_)
        obtain ⟨rfl, rAI5, rBI5, hp⟩ := q6
        show Ev X k_X4_readSize (84, [some (vr 111), some (vi (pl : Int))], [vi (atF tx n (spF tx n e1))]) (MS I5 J cc ss) _
        have hn := (rBI5 2 (by decide)).trans hn
        have hT := hT.cell (rAI5 112 (by decide)) (rAI5 113 (by decide))
        have hkn := spF_le (tx := tx) (n := n) e1 hkn
        have hT1 := pk_T rAI5 rBI5
        have hO := hO.trans hT1.z
        have dS := dS.t hT1
        have h70 := (rBI5 7 (by decide)).trans h70
        refine ev_cv rfl rfl rfl ⟨Nat.le_of_ble_eq_true rfl, Nat.le_of_ble_eq_true rfl⟩ (sp_c_isLetter X _ (atF tx n (spF tx n e1)) ) ?_
        show Ev X k_X4_readSize (87, [some (vr 111), some (vi (pl : Int))], [vi (if 97 ≤ (atF tx n (spF tx n e1)) ∧ (atF tx n (spF tx n e1)) ≤ 122 then 1 else 0)]) (MS I5 J cc ss) _
        refine ev_bne _ rfl (by decide) (fun (g3 : 97 ≤ (atF tx n (spF tx n e1)) ∧ (atF tx n (spF tx n e1)) ≤ 122) => ?_) (fun (g3 : ¬ (97 ≤ (atF tx n (spF tx n e1)) ∧ (atF tx n (spF tx n e1)) ≤ 122)) => ?_)
        · show Ev X k_X4_readSize (92, [some (vr 111), some (vi (pl : Int))], []) (MS I5 J cc ss) _
          have hlt := g3
          refine ev_n (fr' := (93, [some (vr 111), some (vi (pl : Int))], [vr 111])) (S' := MS I5 J cc ss) 1 rfl ?_
          refine ev_cp rfl rfl rfl ⟨Nat.le_of_ble_eq_true rfl, Nat.le_of_ble_eq_true rfl⟩ (sp_readWordA X _ _ _ _ hT hn (spF tx n e1) hp hkn spF_idem) (fun I7 J q8 => ?_)
          obtain ⟨rfl, rAI7, rBI7, hp, hq4⟩ := q8
          show Ev X k_X4_readSize (96, [some (vr 111), some (vi (pl : Int))], [vl (wdF tx n (spF tx n e1))]) (MS I7 J cc ss) _
          have hT2 := rw_T rAI7 rBI7
          have hn := hT2.2.trans hn
          have hT := hT.t hT2
          have hkn := leF_le (tx := tx) (n := n) (spF tx n e1) hkn
          have hO := hO.trans hT2.z
          have dS := dS.t hT2
          have h70 := (rBI7 7 (by decide) (by decide)).trans h70
          refine ev_n (fr' := (99, [some (vr 111), some (vi (pl : Int))], [vl 6050369, vl (wdF tx n (spF tx n e1))])) (S' := MS I7 J cc ss) 1 rfl ?_
          refine ev_lc (c := .eq) (off := 14) rfl rfl (by decide) (fun (g4 : (wdF tx n (spF tx n e1)) = 6050369) => ?_) (fun (g4 : ¬ ((wdF tx n (spF tx n e1)) = 6050369)) => ?_)
          · show Ev X k_X4_readSize (114, [some (vr 111), some (vi (pl : Int))], []) (MS I7 J cc ss) _
            refine ev_n (fr' := (118, [some (vr 111), some (vi (pl : Int))], [vi 2, vi (-2), vr 111])) (S' := MS I7 J cc ss) 3 rfl ?_
            refine ev_cz rfl rfl rfl ⟨Nat.le_of_ble_eq_true rfl, Nat.le_of_ble_eq_true rfl⟩ (sp_readNumber_s X _ _ _ _ (-2) 2 (by omega) (by omega) hT hn ((leF tx n (spF tx n e1))) hp hkn (by omega)) (fun z2 I9 J q10 => ?_)
            obtain ⟨rfl, rT2, hz9⟩ := q10
            rcases hr2 : pnF tx n (-2) 2 ((leF tx n (spF tx n e1))) with ⟨e2, v2⟩ | ⟨c2, s2⟩ <;> rw [hr2] at hz9
            · obtain ⟨rfl, hp, hv2, hkn, h72, hq42⟩ := hz9
              have hn := rT2.2.trans hn
              have hT := hT.t rT2
              have hO := hO.trans rT2.z
              have dS := dS.t rT2
              have h70 := h72.trans h70
              show Ev X k_X4_readSize (121, [some (vr 111), some (vi (pl : Int))], [vi 1]) (MS I9 J cc ss) _
              refine ev_n (fr' := (138, [some (vr 111), some (vi (pl : Int))], [vi (I9 111 5), vi (pl : Int), vr 115])) (S' := MS I9 J cc ss) 7 rfl ?_
              refine ev_eqi (hv2) ?_
              show Ev X k_X4_readSize (138, [some (vr 111), some (vi (pl : Int))], [vi v2, vi (pl : Int), vr 115]) (MS I9 J cc ss) _
              refine ev_cv rfl rfl rfl ⟨Nat.le_of_ble_eq_true rfl, Nat.le_of_ble_eq_true rfl⟩ (sp_putExtra_114 X _ _ _ _ pl v2 dS (by unfold insF; rw [if_pos rfl]; omega) (by unfold insF; rw [if_pos rfl]; omega)) ?_
              show Ev X k_X4_readSize (141, [some (vr 111), some (vi (pl : Int))], []) (MS (up2 I9 117 pl v2) J cc ss) _
              have dS := SRep.ext (x := v2) dS (k := pl) (by unfold insF; rw [if_pos rfl]; omega)
              rw [insF_ext, hIE] at dS
              have hO : onlyZ I (up2 I9 117 pl v2) := ⟨fun a h1 h2 h3 h4 => (up2_row _ _ _ _ h4).trans (hO.1 a h1 h2 h3 h4), (congrFun (up2_row _ _ _ _ (by decide)) _).trans hO.2⟩
              have hp := ((congrFun (up2_row _ _ _ _ (by decide)) _) : (up2 I9 117 pl v2) 111 3 = _).trans hp
              have h70 := ((congrFun (up2_row _ _ _ _ (by decide)) _) : (up2 I9 117 pl v2) 111 7 = _).trans h70
              refine ev_n (fr' := (142, [some (vr 111), some (vi (pl : Int))], [vi 1])) (S' := MS (up2 I9 117 pl v2) J cc ss) 1 rfl ?_
              refine ev_r rfl rfl rfl ?_
              have hX0 : pSz true tx n d a q = pSz2 true tx n d v1 e1 q := pSz_1 (by assumption) hr1
              have hX : pSz2 true tx n d v1 e1 q = .inl (e2, insE d v1 v2) := by unfold pSz2; rw [if_neg (by omega), if_pos (kd_at.mpr hlt), if_pos (by omega), hr2]
              exact ⟨_, _, _, rfl, rfl, rfl, hO, by rw [hX0, hX]; exact ⟨rfl, hp, hkn, h70, dS⟩⟩
            · obtain ⟨rfl, hE⟩ := hz9
              have hO := hO.trans rT2.z
              show Ev X k_X4_readSize (121, [some (vr 111), some (vi (pl : Int))], [vi 0]) (MS I9 J cc ss) _
              refine ev_n (fr' := (125, [some (vr 111), some (vi (pl : Int))], [vi 0])) (S' := MS I9 J cc ss) 2 rfl ?_
              refine ev_r rfl rfl rfl ?_
              have hX0 : pSz true tx n d a q = pSz2 true tx n d v1 e1 q := pSz_1 (by assumption) hr1
              have hX : pSz2 true tx n d v1 e1 q = .inr (c2, s2) := by unfold pSz2; rw [if_neg (by omega), if_pos (kd_at.mpr hlt), if_pos (by omega), hr2]
              exact ⟨_, _, _, rfl, rfl, rfl, hO, by rw [hX0, hX]; exact ⟨rfl, hE⟩⟩
          · show Ev X k_X4_readSize (103, [some (vr 111), some (vi (pl : Int))], []) (MS I7 J cc ss) _
            refine ev_n (fr' := (110, [some (vr 111), some (vi (pl : Int))], [vi (I7 111 4), vi (-2), vr 111])) (S' := MS I7 J cc ss) 4 rfl ?_
            refine ev_eqi (hq4) ?_
            show Ev X k_X4_readSize (110, [some (vr 111), some (vi (pl : Int))], [vi ((spF tx n e1) : Int), vi (-2), vr 111]) (MS I7 J cc ss) _
            refine ev_cv rfl rfl rfl ⟨Nat.le_of_ble_eq_true rfl, Nat.le_of_ble_eq_true rfl⟩ (sp_fail X _ _ _ _ (-2) ((spF tx n e1) : Int)) ?_
            show Ev X k_X4_readSize (113, [some (vr 111), some (vi (pl : Int))], [vi 0]) (MS (up2 (up2 I7 111 6 (-2)) 111 7 ((spF tx n e1) : Int)) J cc ss) _
            refine ev_r rfl rfl rfl ?_
            have hX0 : pSz true tx n d a q = pSz2 true tx n d v1 e1 q := pSz_1 (by assumption) hr1
            have hX : pSz2 true tx n d v1 e1 q = .inr (-2, (spF tx n e1)) := by unfold pSz2; rw [if_neg (by omega), if_pos (kd_at.mpr hlt), if_neg (by omega), if_pos rfl]
            exact ⟨_, _, _, rfl, rfl, rfl, hO.e, by rw [hX0, hX]; exact ⟨rfl, ER.mk⟩⟩
        · show Ev X k_X4_readSize (90, [some (vr 111), some (vi (pl : Int))], []) (MS I5 J cc ss) _
          refine ev_n (fr' := (91, [some (vr 111), some (vi (pl : Int))], [vi 1])) (S' := MS I5 J cc ss) 1 rfl ?_
          refine ev_r rfl rfl rfl ?_
          have hX0 : pSz true tx n d a q = pSz2 true tx n d v1 e1 q := pSz_1 (by assumption) hr1
          have hX : pSz2 true tx n d v1 e1 q = .inl ((spF tx n e1), insE d v1 0) := by unfold pSz2; rw [if_neg (by omega), if_neg (fun h => g3 (kd_at.mp h))]
          rw [hIE] at dS
          exact ⟨_, _, _, rfl, rfl, rfl, hO, by rw [hX0, hX]; exact ⟨rfl, hp, hkn, h70, dS⟩⟩
      · show Ev X k_X4_readSize (54, [some (vr 111), none], []) (MS I1 J cc ss) _
        refine ev_n (fr' := (61, [some (vr 111), none], [vi (I1 111 4), vi (-3), vr 111])) (S' := MS I1 J cc ss) 4 rfl ?_
        refine ev_eqi (hq4) ?_
        show Ev X k_X4_readSize (61, [some (vr 111), none], [vi ((spF tx n q) : Int), vi (-3), vr 111]) (MS I1 J cc ss) _
        refine ev_cv rfl rfl rfl ⟨Nat.le_of_ble_eq_true rfl, Nat.le_of_ble_eq_true rfl⟩ (sp_fail X _ _ _ _ (-3) ((spF tx n q) : Int)) ?_
        show Ev X k_X4_readSize (64, [some (vr 111), none], [vi 0]) (MS (up2 (up2 I1 111 6 (-3)) 111 7 ((spF tx n q) : Int)) J cc ss) _
        refine ev_r rfl rfl rfl ?_
        have hX0 : pSz true tx n d a q = pSz2 true tx n d v1 e1 q := pSz_1 (by assumption) hr1
        have hX : pSz2 true tx n d v1 e1 q = .inr (-3, spF tx n q) := by unfold pSz2; rw [if_pos (by assumption)]
        exact ⟨_, _, _, rfl, rfl, rfl, hO.e, by rw [hX0, hX]; exact ⟨rfl, ER.mk⟩⟩
    · obtain ⟨rfl, hE⟩ := hz9
      have hO := rT1.z
      show Ev X k_X4_readSize (31, [some (vr 111), none], [vi 0]) (MS I1 J cc ss) _
      refine ev_n (fr' := (35, [some (vr 111), none], [vi 0])) (S' := MS I1 J cc ss) 2 rfl ?_
      refine ev_r rfl rfl rfl ?_
      have hX : pSz true tx n d a q = .inr (c1, s1) := by unfold pSz; rw [if_neg (by assumption), hr1]
      exact ⟨_, _, _, rfl, rfl, rfl, hO, by rw [hX]; exact ⟨rfl, hE⟩⟩
  · show Ev X k_X4_readSize (13, [some (vr 111), none], []) (MS I J cc ss) _
    refine ev_n (fr' := (20, [some (vr 111), none], [vi (I 111 4), vi (-4), vr 111])) (S' := MS I J cc ss) 4 rfl ?_
    refine ev_eqi (hq4) ?_
    show Ev X k_X4_readSize (20, [some (vr 111), none], [vi (a : Int), vi (-4), vr 111]) (MS I J cc ss) _
    refine ev_cv rfl rfl rfl ⟨Nat.le_of_ble_eq_true rfl, Nat.le_of_ble_eq_true rfl⟩ (sp_fail X _ _ _ _ (-4) (a : Int)) ?_
    show Ev X k_X4_readSize (23, [some (vr 111), none], [vi 0]) (MS (up2 (up2 I 111 6 (-4)) 111 7 (a : Int)) J cc ss) _
    refine ev_r rfl rfl rfl ?_
    have hX : pSz true tx n d a q = .inr (-4, a) := by unfold pSz; rw [if_pos (by assumption)]
    exact ⟨_, _, _, rfl, rfl, rfl, (onlyZ.refl _).e, by rw [hX]; exact ⟨rfl, ER.mk⟩⟩
