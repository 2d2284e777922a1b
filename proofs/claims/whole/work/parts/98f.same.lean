/-! THE TWO GRAMMARS say the same (printed by gen/g98f.py) -/
theorem pIt_map {one : Nat → (Nat × F1) ⊕ (Int × Nat)} {put : F1 → Nat → F1 → F1} {tx : F1} {n : Nat} {f : F1 → F1} (hput : ∀ c d v, c < 6 → put (f d) c v = f (put d c v)) : ∀ (m c : Nat) (d : F1) (p : Nat), m + c = 5 → pIt one put tx n m c (f d) p = mapR f (pIt one put tx n m c d p) := by
  intro m
  induction m with
  | zero =>
    intro c d p hmc
    rcases hr : one p with ⟨e, v⟩ | x
    · by_cases h : atF tx n (spF tx n e) = 44
      · rw [pIt_0 hr h, pIt_0 hr h]; rfl
      · rw [pIt_no hr h, pIt_no hr h, hput c d v (by omega)]; rfl
    · rw [pIt_er hr, pIt_er hr]; rfl
  | succ m ih =>
    intro c d p hmc
    rcases hr : one p with ⟨e, v⟩ | x
    · by_cases h : atF tx n (spF tx n e) = 44
      · rw [pIt_s hr h, pIt_s hr h, hput c d v (by omega)]; exact ih (c + 1) (put d c v) _ (by omega)
      · rw [pIt_no hr h, pIt_no hr h, hput c d v (by omega)]; rfl
    · rw [pIt_er hr, pIt_er hr]; rfl
theorem pIt_pos {one : Nat → (Nat × F1) ⊕ (Int × Nat)} {put : F1 → Nat → F1 → F1} {tx : F1} {n m c p p' : Nat} {d : F1} (h : one p = one p') : pIt one put tx n m c d p = pIt one put tx n m c d p' := by
  cases m
  · unfold pIt; rw [h]
  · rw [pIt, pIt, h]
theorem fin_map {tx : F1} {n : Nat} {f : F1 → F1} (r : (Nat × F1) ⊕ (Int × Nat)) : finP tx n (fun d => d) (mapR f r) = finP tx n f r := by
  rcases r with ⟨e, v⟩ | x <;> rfl
theorem nm_P {s c : Nat} {x : Int} {d v : F1} (hs : s < 8) (hc : c < 6) : puS (nmX 461 11 s x d) s c v = nmX 461 11 s x (puS d s c v) := by
  funext k
  by_cases h1 : k = 11
  · rw [puS_out (by omega) (by omega)]; unfold nmX; rw [h1, upd1_same, upd1_same]
  · by_cases h2 : k = s + 461
    · rw [puS_out (by omega) (by omega)]; unfold nmX; rw [upd1_ne _ _ _ h1, upd1_ne _ _ _ h1, h2, upd1_same, upd1_same]
    · have e : ∀ g : F1, nmX 461 11 s x g k = g k := fun g => (upd1_ne _ _ _ h1).trans (upd1_ne _ _ _ h2)
      rw [e]
      unfold puS upd1 wrS
      by_cases h3 : k = 37 * s + 12
      · rw [if_pos h3, if_pos h3]
      · rw [if_neg h3, if_neg h3]
        by_cases h4 : 37 * s + 6 * c + 13 ≤ k ∧ k < 37 * s + 6 * c + 13 + 6
        · rw [if_pos h4, if_pos h4]
        · rw [if_neg h4, if_neg h4]; exact e d
theorem nm_I {s c : Nat} {x : Int} {d v : F1} (hs : s < 8) (hc : c < 6) : puU (nmX 469 308 s x d) s c v = nmX 469 308 s x (puU d s c v) := by
  funext k
  by_cases h1 : k = 308
  · rw [puU_out (by omega) (by omega)]; unfold nmX; rw [h1, upd1_same, upd1_same]
  · by_cases h2 : k = s + 469
    · rw [puU_out (by omega) (by omega)]; unfold nmX; rw [upd1_ne _ _ _ h1, upd1_ne _ _ _ h1, h2, upd1_same, upd1_same]
    · have e : ∀ g : F1, nmX 469 308 s x g k = g k := fun g => (upd1_ne _ _ _ h1).trans (upd1_ne _ _ _ h2)
      rw [e]
      unfold puU upd1 wrS
      by_cases h3 : k = 19 * s + 309
      · rw [if_pos h3, if_pos h3]
      · rw [if_neg h3, if_neg h3]
        by_cases h4 : 19 * s + 3 * c + 310 ≤ k ∧ k < 19 * s + 3 * c + 310 + 3
        · rw [if_pos h4, if_pos h4]
        · rw [if_neg h4, if_neg h4]; exact e d
theorem rw_nmP {tx : F1} {n s a : Nat} {d : F1} (hz : d (37 * s + 12) = 0) (hs : s < 8) : rwP tx n d s a = nmX 461 11 s (wdF tx n a) d := by
  funext k
  unfold rwP rowF nmX upd1
  by_cases h1 : k = 11
  · rw [if_pos h1, if_pos h1]
  · rw [if_neg h1, if_neg h1]
    by_cases h2 : k = s + 461
    · rw [if_pos h2, if_pos h2]
    · rw [if_neg h2, if_neg h2]
      by_cases h3 : k = 37 * s + 12
      · rw [if_pos h3, h3, hz]
      · rw [if_neg h3]
theorem rw_nmI {tx : F1} {n s a : Nat} {d : F1} (hz : d (19 * s + 309) = 0) (hs : s < 8) : rwI tx n d s a = nmX 469 308 s (wdF tx n a) d := by
  funext k
  unfold rwI rowF nmX upd1
  by_cases h1 : k = 308
  · rw [if_pos h1, if_pos h1]
  · rw [if_neg h1, if_neg h1]
    by_cases h2 : k = s + 469
    · rw [if_pos h2, if_pos h2]
    · rw [if_neg h2, if_neg h2]
      by_cases h3 : k = 19 * s + 309
      · rw [if_pos h3, h3, hz]
      · rw [if_neg h3]
theorem rPt_eq {tx : F1} {n s a : Nat} {d : F1} (hs : d 11 = (s : Int)) (hz : s < 8 → d (37 * s + 12) = 0) : rPt tx n d s a = finP tx n (fun d => d) (pRP tx n d s a (leF tx n a)) := by
  unfold rPt pRP
  by_cases h8 : 8 ≤ d 11
  · rw [if_pos h8, if_pos h8]; rfl
  rw [if_neg h8, if_neg h8]
  unfold nnR
  by_cases h1 : wdF tx n (spF tx n (leF tx n a)) = 0
  · rw [if_pos h1, if_pos h1]; rfl
  rw [if_neg h1, if_neg h1]
  have hss : (d 11).toNat = s := by omega
  by_cases h2 : fnd (fun r => d (r + 461)) (wdF tx n (spF tx n (leF tx n a))) s 0 = -1
  · rw [if_pos h2, if_neg (fun q => q (by unfold pnmF; rw [hss]; exact h2)), rw_nmP (hz (by omega)) (by omega)]
    have hm := pIt_map (one := oneP tx n) (put := ptP s) (tx := tx) (n := n) (f := nmX 461 11 s (wdF tx n (spF tx n (leF tx n a)))) (fun c d v hc => nm_P (by omega) hc) 5 0 d (leF tx n (spF tx n (leF tx n a))) rfl
    show finP tx n _ (pIt (oneP tx n) (ptP s) tx n 5 0 d _) = finP tx n _ (pIt (oneP tx n) (ptP s) tx n 5 0 (nmX 461 11 s _ d) _)
    rw [hm, fin_map]
  · rw [if_neg h2, if_pos (by unfold pnmF; rw [hss]; exact h2)]; rfl
theorem le_at {tx : F1} {n r : Nat} {c : Int} (h : kdF tx n r = 0) (hc : c < 97) : ¬ atF tx n r = c := by
  have := kd_at.mp h; omega
/-- what only the class refuses at once is refused at the statement's end -/
theorem pUs_st {tx : F1} {n a : Nat} {d : F1} : pUs false tx n d a = pUs true tx n d a ∨ ∃ r v, spF tx n r = r ∧ kdF tx n r = 0 ∧ pUs false tx n d a = .inl (r, v) ∧ pUs true tx n d a = .inr (-2, r) := by
  unfold pUs
  by_cases h1 : wdF tx n a = 0
  · rw [if_pos h1, if_pos h1]; exact Or.inl rfl
  rw [if_neg h1, if_neg h1]
  by_cases h2 : paF tx n d a = -1
  · rw [if_pos h2, if_pos h2]; exact Or.inl rfl
  rw [if_neg h2, if_neg h2]
  by_cases h3 : kdF tx n (spF tx n (leF tx n a)) = 0
  · rw [if_pos h3, if_pos h3]
    by_cases h4 : wdF tx n (spF tx n (leF tx n a)) = 52
    · rw [if_pos h4, if_pos h4]; exact Or.inl rfl
    · rw [if_neg h4, if_neg h4]; exact Or.inr ⟨_, _, spF_idem, h3, rfl, rfl⟩
  · rw [if_neg h3, if_neg h3]; exact Or.inl rfl
theorem fin_st {D : F1} {tx : F1} {n s : Nat} {f : F1 → F1} : ∀ (m c : Nat) (d : F1) (p : Nat), finP tx n f (pIt (oneI false D tx n) (ptI s) tx n m c d p) = finP tx n f (pIt (oneI true D tx n) (ptI s) tx n m c d p) := by
  have hno : ∀ (m c : Nat) (d : F1) (p r : Nat) (v : F1), spF tx n r = r → kdF tx n r = 0 → oneI false D tx n p = .inl (r, v) → oneI true D tx n p = .inr (-2, r) → finP tx n f (pIt (oneI false D tx n) (ptI s) tx n m c d p) = finP tx n f (pIt (oneI true D tx n) (ptI s) tx n m c d p) := by
    intro m c d p r v hsp hk h1 h2
    rw [pIt_no h1 (by rw [hsp]; exact le_at hk (by decide)), pIt_er h2, hsp, fin_0 (by rw [hsp]; exact le_at hk (by decide)), hsp]
    rfl
  intro m
  induction m with
  | zero =>
    intro c d p
    rcases pUs_st (tx := tx) (n := n) (a := spF tx n p) (d := D) with h | ⟨r, v, hsp, hk, h1, h2⟩
    · rcases hr : oneI true D tx n p with ⟨e, v⟩ | x
      · have hf : oneI false D tx n p = .inl (e, v) := h.trans hr
        by_cases h4 : atF tx n (spF tx n e) = 44
        · rw [pIt_0 hr h4, pIt_0 hf h4]
        · rw [pIt_no hr h4, pIt_no hf h4]
      · rw [pIt_er hr, pIt_er (show oneI false D tx n p = .inr x from h.trans hr)]
    · exact hno 0 c d p r v hsp hk h1 h2
  | succ m ih =>
    intro c d p
    rcases pUs_st (tx := tx) (n := n) (a := spF tx n p) (d := D) with h | ⟨r, v, hsp, hk, h1, h2⟩
    · rcases hr : oneI true D tx n p with ⟨e, v⟩ | x
      · have hf : oneI false D tx n p = .inl (e, v) := h.trans hr
        by_cases h4 : atF tx n (spF tx n e) = 44
        · rw [pIt_s hr h4, pIt_s hf h4]; exact ih _ _ _
        · rw [pIt_no hr h4, pIt_no hf h4]
      · rw [pIt_er hr, pIt_er (show oneI false D tx n p = .inr x from h.trans hr)]
    · exact hno (m + 1) c d p r v hsp hk h1 h2
theorem rIc_eq {tx : F1} {n s a : Nat} {d : F1} (hs : d 308 = (s : Int)) (hz : s < 8 → d (19 * s + 309) = 0) : rIc tx n d s a = finP tx n (fun d => d) (pRI true tx n d s a (leF tx n a)) := by
  unfold rIc pRI
  by_cases h8 : 8 ≤ d 308
  · rw [if_pos h8, if_pos h8]; rfl
  rw [if_neg h8, if_neg h8]
  unfold nnR
  by_cases h1 : wdF tx n (spF tx n (leF tx n a)) = 0
  · rw [if_pos h1, if_pos h1]; rfl
  rw [if_neg h1, if_neg h1]
  have hss : (d 308).toNat = s := by omega
  by_cases h2 : fnd (fun r => d (r + 469)) (wdF tx n (spF tx n (leF tx n a))) s 0 = -1
  · rw [if_pos h2, if_neg (fun q => q (by unfold pnmF; rw [hss]; exact h2)), rw_nmI (hz (by omega)) (by omega)]
    obtain ⟨t, ht⟩ : ∃ t, spF tx n (leF tx n (spF tx n (leF tx n a))) = t := ⟨_, rfl⟩
    have hid : spF tx n t = t := by rw [← ht]; exact spF_idem
    have hpos : oneI false d tx n (leF tx n (spF tx n (leF tx n a))) = oneI false d tx n t := by
      show pUs false tx n d (spF tx n _) = pUs false tx n d (spF tx n t)
      rw [ht, hid]
    have hm := pIt_map (one := oneI true d tx n) (put := ptI s) (tx := tx) (n := n) (f := nmX 469 308 s (wdF tx n (spF tx n (leF tx n a)))) (fun c d v hc => nm_I (by omega) hc) 5 0 d t rfl
    simp only [ht]
    by_cases h3 : kdF tx n t = 0
    · rw [if_neg (le_at h3 (by decide)), if_pos h3, pIt_pos hpos, fin_st]
      show _ = finP tx n _ (pIt (oneI true d tx n) (ptI s) tx n 5 0 (nmX 469 308 s _ d) t)
      rw [hm, fin_map]
    · rw [if_neg h3]
      by_cases h4 : atF tx n t = 59
      · rw [if_pos h4, fin_1 (by rw [hid]; exact h4), fin_1 (by rw [hid]; exact h4)]
      · have hw0 : wdF tx n t = 0 := wdF_0 (leF_not (by
          rcases Nat.lt_or_ge t n with q | q
          · right; cases hb : isLe (tx t)
            · rfl
            · exact absurd (kd_0.mpr ⟨q, hb⟩) h3
          · exact Or.inl q))
        have hone : oneI false d tx n (leF tx n (spF tx n (leF tx n a))) = .inr (-2, t) := by
          rw [hpos]
          show pUs false tx n d (spF tx n t) = _
          rw [hid]; unfold pUs; rw [if_pos hw0]
        rw [if_neg h4, pIt_er hone, fin_0 (by rw [hid]; exact h4), hid]
        rfl
  · rw [if_neg h2, if_pos (by unfold pnmF; rw [hss]; exact h2)]; rfl
theorem rSz_eq {tx : F1} {n a p : Nat} {d : F1} : finP tx n (fun d => d) (pSz false tx n d a p) = finP tx n (fun d => d) (pSz true tx n d a p) := by
  by_cases h5 : 5 ≤ d 0
  · unfold pSz; rw [if_pos h5, if_pos h5]
  rcases hr : pnF tx n 4 32 p with ⟨e, x⟩ | x
  · rw [pSz_1 h5 hr, pSz_1 h5 hr]
    unfold pSz2
    by_cases h1 : szF d x ≠ -1
    · rw [if_pos h1, if_pos h1]
    rw [if_neg h1, if_neg h1]
    by_cases h2 : kdF tx n (spF tx n e) = 0
    · rw [if_pos h2, if_pos h2]
      by_cases h3 : wdF tx n (spF tx n e) = 6050369
      · rw [if_pos h3, if_pos h3]
      · rw [if_neg h3, if_neg h3, if_neg (by decide), if_pos rfl, fin_0 (by rw [spF_idem]; exact le_at h2 (by decide)), spF_idem]
        rfl
    · rw [if_neg h2, if_neg h2]
  · unfold pSz; rw [if_neg h5, if_neg h5, hr]
/-- a statement as the reference reads it -/
noncomputable def rStm (tx : F1) (n : Nat) (d : F1) (a : Nat) : (Nat × F1) ⊕ (Int × Nat) :=
  if wdF tx n a = 632645 then finP tx n (fun d => d) (pSz false tx n d a (leF tx n a)) else if wdF tx n a = 525908 then rPt tx n d (d 11).toNat a
  else if wdF tx n a = 298478 then rIc tx n d (d 308).toNat a else .inr (-2, a)
def ZD (d : F1) : Prop := (∀ k, 37 * (d 11).toNat + 12 ≤ k → k < 308 → d k = 0) ∧ ∀ k, 19 * (d 308).toNat + 309 ≤ k → k < 461 → d k = 0
theorem rStm_eq {tx : F1} {n a : Nat} {d : F1} (hw : WF d) (hz : ZD d) : rStm tx n d a = finP tx n (fun d => d) (pStm true tx n d a) := by
  have h11 := hw.2.1.1
  have h308 := hw.2.2.1
  unfold rStm pStm
  by_cases h1 : wdF tx n a = 632645
  · rw [if_pos h1, if_pos h1]; exact rSz_eq
  rw [if_neg h1, if_neg h1]
  by_cases h2 : wdF tx n a = 525908
  · rw [if_pos h2, if_pos h2]; exact rPt_eq (by omega) (fun h => hz.1 _ (by omega) (by omega))
  rw [if_neg h2, if_neg h2]
  by_cases h3 : wdF tx n a = 298478
  · rw [if_pos h3, if_pos h3]; exact rIc_eq (by omega) (fun h => hz.2 _ (by omega) (by omega))
  rw [if_neg h3, if_neg h3]
  rfl
theorem pSet_f {tx : F1} {n m p : Nat} {d : F1} (h : ¬ n ≤ spF tx n p) : pSet true tx n (m + 1) d p = match finP tx n (fun d => d) (pStm true tx n d (spF tx n p)) with | .inr x => .inr x | .inl (p', d') => pSet true tx n m d' p' := by
  rcases hr : pStm true tx n d (spF tx n p) with ⟨e, d'⟩ | x
  · by_cases h5 : atF tx n (spF tx n e) = 59
    · rw [pSet_s h hr h5, fin_1 h5]
    · rw [pSet_no h hr h5, fin_0 h5]
  · rw [pSet_er h hr]; rfl
theorem InvP.out {d e : F1} {tx : F1} {n s a c : Nat} (hi : InvP (rwP tx n d s a) s c e) (hs : s < 8) : e 11 = (s : Int) + 1 ∧ ∀ k, 37 * s + 49 ≤ k → k < 308 → e k = d k := ⟨(hi.2.1 11 (by omega)).trans (if_pos rfl), fun k h1 h2 => (hi.2.1 k (by omega)).trans (rowF_out (by omega) (by omega) (by omega))⟩
theorem InvI.out {d e : F1} {tx : F1} {n s a c : Nat} (hi : InvI (rwI tx n d s a) s c e) (hs : s < 8) : e 308 = (s : Int) + 1 ∧ ∀ k, 19 * s + 328 ≤ k → k < 461 → e k = d k := ⟨(hi.2.1 308 (by omega)).trans (if_pos rfl), fun k h1 h2 => (hi.2.1 k (by omega)).trans (rowF_out (by omega) (by omega) (by omega))⟩
theorem pRP_zd {tx : F1} {n s a p e : Nat} {d d' : F1} (hw : WF d) (hz : ZD d) (hs : d 11 = (s : Int)) (h : pRP tx n d s a p = .inl (e, d')) : ZD d' := by
  have hok := pRP_ok hw hs h
  unfold pRP at h
  by_cases h1 : 8 ≤ d 11
  · rw [if_pos h1] at h; cases h
  rw [if_neg h1] at h
  by_cases h2 : wdF tx n (spF tx n p) = 0
  · rw [if_pos h2] at h; cases h
  rw [if_neg h2] at h
  by_cases h3 : pnmF tx n d 461 11 (spF tx n p) ≠ -1
  · rw [if_pos h3] at h; cases h
  rw [if_neg h3] at h
  obtain ⟨a1, c, c1, c6, hi⟩ := pIt_ok (Q := ShV) (Inv := InvP (rwP tx n d s (spF tx n p)) s) (fun p e v q => by
    have q1 := pSh_ok q
    have q2 := spF_ge (tx := tx) (n := n) p
    exact ⟨by omega, q1.2⟩) (fun c e v hc h1 h2 => InvP.step c e v hc h1 h2) 5 0 _ _ _ _ rfl (InvP.start (by omega)) h
  obtain ⟨e11, eo⟩ := hi.out (by omega)
  have e308 : d' 308 = d 308 := hok.2.2 308 (by omega)
  refine ⟨fun k k1 k2 => ?_, fun k k1 k2 => ?_⟩
  · rw [e11] at k1
    rw [eo k (by omega) k2]; exact hz.1 k (by omega) k2
  · rw [e308] at k1
    rw [hok.2.2 k (by omega)]; exact hz.2 k k1 k2
theorem pRI_zd {tx : F1} {n s a p e : Nat} {d d' : F1} (hw : WF d) (hz : ZD d) (hs : d 308 = (s : Int)) (h : pRI true tx n d s a p = .inl (e, d')) : ZD d' := by
  have hok := pRI_ok hw hs h
  have hd := hw.2.1.1
  unfold pRI at h
  by_cases h1 : 8 ≤ d 308
  · rw [if_pos h1] at h; cases h
  rw [if_neg h1] at h
  by_cases h2 : wdF tx n (spF tx n p) = 0
  · rw [if_pos h2] at h; cases h
  rw [if_neg h2] at h
  by_cases h3 : pnmF tx n d 469 308 (spF tx n p) ≠ -1
  · rw [if_pos h3] at h; cases h
  rw [if_neg h3] at h
  have e11 : rwI tx n d s (spF tx n p) 11 = d 11 := rowF_out (by omega) (by omega) (by omega)
  have hi : ∃ c, InvI (rwI tx n d s (spF tx n p)) s c d' := by
    by_cases h4 : kdF tx n (spF tx n (leF tx n (spF tx n p))) = 0
    · rw [if_pos h4] at h
      obtain ⟨a1, c, c1, c6, hi⟩ := pIt_ok (Q := UsV (rwI tx n d s (spF tx n p))) (Inv := InvI (rwI tx n d s (spF tx n p)) s) (fun p e v q => by
        have q1 := pUs_ok hd q
        have q2 := spF_ge (tx := tx) (n := n) p
        refine ⟨by omega, ?_⟩
        unfold UsV; rw [e11]; exact q1.2) (fun c e v hc h1 h2 => InvI.step c e v hc h1 h2) 5 0 _ _ _ _ rfl (InvI.start (by omega)) h
      exact ⟨c, hi⟩
    · rw [if_neg h4] at h; cases h
      exact ⟨0, InvI.start (by omega)⟩
  obtain ⟨c, hi⟩ := hi
  obtain ⟨e308, eo⟩ := hi.out (by omega)
  have e11 : d' 11 = d 11 := hok.2.2 11 (by omega)
  refine ⟨fun k k1 k2 => ?_, fun k k1 k2 => ?_⟩
  · rw [e11] at k1
    rw [hok.2.2 k (by omega)]; exact hz.1 k k1 k2
  · rw [e308] at k1
    rw [eo k (by omega) k2]; exact hz.2 k (by omega) k2
theorem pStm_zd {tx : F1} {n a e : Nat} {d d' : F1} (hw : WF d) (hz : ZD d) (h : pStm true tx n d a = .inl (e, d')) : ZD d' := by
  have h11 := hw.2.1.1
  have h308 := hw.2.2.1
  unfold pStm at h
  by_cases h1 : wdF tx n a = 632645
  · rw [if_pos h1] at h
    have hok := (pSz_ok hw h).2.2
    have e1 := hok 11 (by omega)
    have e2 := hok 308 (by omega)
    refine ⟨fun k k1 k2 => ?_, fun k k1 k2 => ?_⟩
    · rw [e1] at k1; rw [hok k (by omega)]; exact hz.1 k k1 k2
    · rw [e2] at k1; rw [hok k (by omega)]; exact hz.2 k k1 k2
  rw [if_neg h1] at h
  by_cases h2 : wdF tx n a = 525908
  · rw [if_pos h2] at h; exact pRP_zd hw hz (by omega) h
  rw [if_neg h2] at h
  by_cases h3 : wdF tx n a = 298478
  · rw [if_pos h3] at h; exact pRI_zd hw hz (by omega) h
  rw [if_neg h3] at h; cases h
