/-! THE CLASS reads rows of items (printed by gen/g94.py) -/
/-- items from number c on, m more than one at most; one: an item at a place -/
def pIt (one : Nat → (Nat × F1) ⊕ (Int × Nat)) (put : F1 → Nat → F1 → F1) (tx : F1) (n : Nat) : Nat → Nat → F1 → Nat → (Nat × F1) ⊕ (Int × Nat)
  | 0, c, d, p => match one p with
    | .inr x => .inr x
    | .inl (e, v) => if atF tx n (spF tx n e) = 44 then .inr (-4, spF tx n e) else .inl (spF tx n e, put d c v)
  | m + 1, c, d, p => match one p with
    | .inr x => .inr x
    | .inl (e, v) => if atF tx n (spF tx n e) = 44 then pIt one put tx n m (c + 1) (put d c v) (spF tx n e + 1) else .inl (spF tx n e, put d c v)
theorem pIt_er {one : Nat → (Nat × F1) ⊕ (Int × Nat)} {put : F1 → Nat → F1 → F1} {tx : F1} {n m c p : Nat} {d : F1} {x : Int × Nat} (h : one p = .inr x) : pIt one put tx n m c d p = .inr x := by
  cases m <;> (unfold pIt; rw [h])
theorem pIt_no {one : Nat → (Nat × F1) ⊕ (Int × Nat)} {put : F1 → Nat → F1 → F1} {tx : F1} {n m c p e : Nat} {d v : F1} (h : one p = .inl (e, v)) (h2 : atF tx n (spF tx n e) ≠ 44) : pIt one put tx n m c d p = .inl (spF tx n e, put d c v) := by
  cases m <;> (unfold pIt; rw [h]; exact if_neg h2)
theorem pIt_0 {one : Nat → (Nat × F1) ⊕ (Int × Nat)} {put : F1 → Nat → F1 → F1} {tx : F1} {n c p e : Nat} {d v : F1} (h : one p = .inl (e, v)) (h2 : atF tx n (spF tx n e) = 44) : pIt one put tx n 0 c d p = .inr (-4, spF tx n e) := by
  unfold pIt; rw [h]; exact if_pos h2
theorem pIt_s {one : Nat → (Nat × F1) ⊕ (Int × Nat)} {put : F1 → Nat → F1 → F1} {tx : F1} {n m c p e : Nat} {d v : F1} (h : one p = .inl (e, v)) (h2 : atF tx n (spF tx n e) = 44) : pIt one put tx n (m + 1) c d p = pIt one put tx n m (c + 1) (put d c v) (spF tx n e + 1) := by
  rw [pIt, h]; exact if_pos h2
theorem fnd_congr {f f' : Nat → Int} {x : Int} : ∀ (m r : Nat), (∀ k, r ≤ k → k < r + m → f k = f' k) → fnd f x m r = fnd f' x m r
  | 0, _, _ => rfl
  | m + 1, r, h => by
    show (if f r = x then (r : Int) else fnd f x m (r + 1)) = (if f' r = x then (r : Int) else fnd f' x m (r + 1))
    rw [h r (Nat.le_refl _) (by omega), fnd_congr m (r + 1) (fun k h1 h2 => h k (by omega) (by omega))]
theorem pUs_congr {st : Bool} {tx : F1} {n a : Nat} {d e : F1} (h8 : d 11 ≤ 8) (h : ∀ k, k = 11 ∨ (461 ≤ k ∧ k < 469) → e k = d k) : pUs st tx n e a = pUs st tx n d a := by
  have e1 : paF tx n e a = paF tx n d a := by
    unfold paF; rw [h 11 (Or.inl rfl)]
    exact fnd_congr _ 0 (fun k _ h2 => h _ (Or.inr (by omega)))
  unfold pUs; rw [e1]
def onlyRw (R : Nat) (I I' J J' : F2) : Prop := (∀ a, a ≠ 111 → a ≠ R → a ≠ R + 2 → a ≠ R + 3 → I' a = I a) ∧ I' 111 2 = I 111 2 ∧ (∀ a, a ≠ R + 1 → J' a = J a) ∧ I' R 0 = I R 0
def CRw (P : F2 → F2 → F1 → Prop) (R : Nat) (I I' J J' : F2) (n : Nat) (r : (Nat × F1) ⊕ (Int × Nat)) (z : Int) : Prop := onlyRw R I I' J J' ∧ match r with
  | .inl (p, d') => z = 1 ∧ I' 111 3 = (p : Int) ∧ p ≤ n ∧ I' 111 7 = I 111 7 ∧ P I' J' d'
  | .inr (c, s) => z = 0 ∧ ER I' c s
abbrev pnmF (tx : F1) (n : Nat) (d : F1) (f cn a : Nat) : Int := fnd (fun r => d (r + f)) (wdF tx n a) (d cn).toNat 0
abbrev rwP (tx : F1) (n : Nat) (d : F1) (s a : Nat) : F1 := rowF d 11 (s + 461) (37 * s + 12) s (wdF tx n a)
abbrev rwI (tx : F1) (n : Nat) (d : F1) (s a : Nat) : F1 := rowF d 308 (s + 469) (19 * s + 309) s (wdF tx n a)
abbrev itP (tx : F1) (n s m c : Nat) (d : F1) (p : Nat) : (Nat × F1) ⊕ (Int × Nat) := pIt (fun p => pSh tx n (spF tx n p)) (fun d c v => puS d s c v) tx n m c d p
abbrev itI (st : Bool) (D : F1) (tx : F1) (n s m c : Nat) (d : F1) (p : Nat) : (Nat × F1) ⊕ (Int × Nat) := pIt (fun p => pUs st tx n D (spF tx n p)) (fun d c v => puU d s c v) tx n m c d p
/-- a part: word at a, name from p on -/
def pRP (tx : F1) (n : Nat) (d : F1) (s a p : Nat) : (Nat × F1) ⊕ (Int × Nat) := if 8 ≤ d 11 then .inr (-4, a) else if wdF tx n (spF tx n p) = 0 then .inr (-2, spF tx n p) else if pnmF tx n d 461 11 (spF tx n p) ≠ -1 then .inr (-3, spF tx n p) else itP tx n s 5 0 (rwP tx n d s (spF tx n p)) (leF tx n (spF tx n p))
/-- an icon -/
def pRI (st : Bool) (tx : F1) (n : Nat) (d : F1) (s a p : Nat) : (Nat × F1) ⊕ (Int × Nat) := if 8 ≤ d 308 then .inr (-4, a) else if wdF tx n (spF tx n p) = 0 then .inr (-2, spF tx n p) else if pnmF tx n d 469 308 (spF tx n p) ≠ -1 then .inr (-3, spF tx n p) else if kdF tx n (spF tx n (leF tx n (spF tx n p))) = 0 then itI st d tx n s 5 0 (rwI tx n d s (spF tx n p)) (spF tx n (leF tx n (spF tx n p))) else .inl (spF tx n (leF tx n (spF tx n p)), rwI tx n d s (spF tx n p))
theorem rowF_out {d : F1} {nI nm cn s k : Nat} {x : Int} (h1 : k ≠ nI) (h2 : k ≠ nm) (h3 : k ≠ cn) : rowF d nI nm cn s x k = d k := by unfold rowF; rw [if_neg h1, if_neg h2, if_neg h3]
theorem lp_rowX_118 (X : AX) (I J : Nat → Nat → Int) (cc ss : Nat) (p t : Nat) (x : Int) (hq4 : I 111 4 = (t : Int)) : Ev X k_X4_readRow (86, [some (vr 111), some (vr 118), some (vi 1), some (vl x), none, some (vi (p : Int)), some (vi 6)], []) (MS I J cc ss) (fun o T => o = .inl (some (vi 0)) ∧ T = MS (up2 (up2 I 111 6 (-4)) 111 7 (t : Int)) J cc ss) := by
  refine ev_n (fr' := (162, [some (vr 111), some (vr 118), some (vi 1), some (vl x), none, some (vi (p : Int)), some (vi 6)], [vi (I 111 4), vi (-4), vr 111])) (S' := MS I J cc ss) 7 rfl ?_
  refine ev_eqi (hq4) ?_
  show Ev X k_X4_readRow (162, [some (vr 111), some (vr 118), some (vi 1), some (vl x), none, some (vi (p : Int)), some (vi 6)], [vi (t : Int), vi (-4), vr 111]) (MS I J cc ss) _
  refine ev_cv rfl rfl rfl ⟨Nat.le_of_ble_eq_true rfl, Nat.le_of_ble_eq_true rfl⟩ (sp_fail X _ _ _ _ (-4) (t : Int)) ?_
  show Ev X k_X4_readRow (165, [some (vr 111), some (vr 118), some (vi 1), some (vl x), none, some (vi (p : Int)), some (vi 6)], [vi 0]) (MS (up2 (up2 I 111 6 (-4)) 111 7 (t : Int)) J cc ss) _
  refine ev_r rfl rfl rfl ?_
  exact ⟨rfl, rfl⟩
theorem lp_rowX_122 (X : AX) (I J : Nat → Nat → Int) (cc ss : Nat) (p t : Nat) (x : Int) (hq4 : I 111 4 = (t : Int)) : Ev X k_X4_readRow (86, [some (vr 111), some (vr 122), some (vi 0), some (vl x), none, some (vi (p : Int)), some (vi 6)], []) (MS I J cc ss) (fun o T => o = .inl (some (vi 0)) ∧ T = MS (up2 (up2 I 111 6 (-4)) 111 7 (t : Int)) J cc ss) := by
  refine ev_n (fr' := (162, [some (vr 111), some (vr 122), some (vi 0), some (vl x), none, some (vi (p : Int)), some (vi 6)], [vi (I 111 4), vi (-4), vr 111])) (S' := MS I J cc ss) 7 rfl ?_
  refine ev_eqi (hq4) ?_
  show Ev X k_X4_readRow (162, [some (vr 111), some (vr 122), some (vi 0), some (vl x), none, some (vi (p : Int)), some (vi 6)], [vi (t : Int), vi (-4), vr 111]) (MS I J cc ss) _
  refine ev_cv rfl rfl rfl ⟨Nat.le_of_ble_eq_true rfl, Nat.le_of_ble_eq_true rfl⟩ (sp_fail X _ _ _ _ (-4) (t : Int)) ?_
  show Ev X k_X4_readRow (165, [some (vr 111), some (vr 122), some (vi 0), some (vl x), none, some (vi (p : Int)), some (vi 6)], [vi 0]) (MS (up2 (up2 I 111 6 (-4)) 111 7 (t : Int)) J cc ss) _
  refine ev_r rfl rfl rfl ?_
  exact ⟨rfl, rfl⟩
theorem PRep.u {I J : F2} {R f : Nat} {g : F1} {v : Int} (h : PRep I J R g) (hR : 113 < R) : PRep (up2 I 111 f v) J R g := by
  unfold PRep; rw [up2_row _ _ _ _ (show R ≠ 111 by omega), up2_row _ _ _ _ (show R + 2 ≠ 111 by omega), up2_row _ _ _ _ (show R + 3 ≠ 111 by omega)]; exact h
theorem IRep.u {I J : F2} {R f : Nat} {g : F1} {v : Int} (h : IRep I J R g) (hR : 113 < R) : IRep (up2 I 111 f v) J R g := by
  unfold IRep; rw [up2_row _ _ _ _ (show R ≠ 111 by omega), up2_row _ _ _ _ (show R + 2 ≠ 111 by omega), up2_row _ _ _ _ (show R + 3 ≠ 111 by omega)]; exact h
theorem lp_rowP (X : AX) (I J : Nat → Nat → Int) (cc ss : Nat) (I0 : F2) (p : Nat) (x : Int) (c m : Nat) (hcm : m + c = 5) {tx : F1} {n : Nat} (hT : TB I tx n) (hn : I 111 2 = (n : Int)) (q : Nat) (hp : I 111 3 = (q : Int)) (hkn : q ≤ n) {e : F1} (dP : PRep I J 118 e) (hPK : PK e p) (hc : e (37 * p + 12) = (c : Int)) (hO : onlyI 118 I0 I) (h70 : I 111 7 = I0 111 7) : Ev X k_X4_readRow (86, [some (vr 111), some (vr 118), some (vi 1), some (vl x), none, some (vi (p : Int)), some (vi (c : Int))], []) (MS I J cc ss) (PZ cc ss (fun z I' J' => J' = J ∧ CI (fun I d => PRep I J 118 d) 118 I0 I' n (fun d => d) (itP tx n p m c e q) z)) := by
  have h900 := hT.le
  refine ev_n (fr' := (90, [some (vr 111), some (vr 118), some (vi 1), some (vl x), none, some (vi (p : Int)), some (vi (c : Int))], [vi 6, vi (c : Int)])) (S' := MS I J cc ss) 2 rfl ?_
  refine ev_ic (c := .ge) (off := 65) rfl (by decide) (fun (g1 : 6 ≤ (c : Int)) => False.elim (by omega)) (fun (g1 : ¬ (6 ≤ (c : Int))) => ?_)
  show Ev X k_X4_readRow (93, [some (vr 111), some (vr 118), some (vi 1), some (vl x), none, some (vi (p : Int)), some (vi (c : Int))], []) (MS I J cc ss) _
  refine ev_n (fr' := (100, [some (vr 111), some (vr 118), some (vi 1), some (vl x), none, some (vi (p : Int)), some (vi (c : Int))], [vi (p : Int), vr 111])) (S' := MS I J cc ss) 4 rfl ?_
  refine ev_cz rfl rfl rfl ⟨Nat.le_of_ble_eq_true rfl, Nat.le_of_ble_eq_true rfl⟩ (sp_readShape X _ _ _ _ p c hT hn q hp hkn dP hPK hc (by omega)) (fun z1 I1 J q2 => ?_)
  obtain ⟨rfl, rT1, hz9⟩ := q2
  rcases hr1 : pSh tx n (spF tx n q) with ⟨e1, v1⟩ | ⟨c1, s1⟩ <;> rw [hr1] at hz9
  · obtain ⟨rfl, hp, hkn, h71, dP⟩ := hz9
    have hn := rT1.2.trans hn
    have hT := hT.cell (rT1.1 112 (by decide) (by decide) (by decide)) (rT1.1 113 (by decide) (by decide) (by decide))
    have hO := hO.trans rT1
    have h70 := h71.trans h70
    show Ev X k_X4_readRow (103, [some (vr 111), some (vr 118), some (vi 1), some (vl x), none, some (vi (p : Int)), some (vi (c : Int))], [vi 1]) (MS I1 J cc ss) _
    refine ev_n (fr' := (121, [some (vr 111), some (vr 118), some (vi 1), some (vl x), none, some (vi (p : Int)), some (vi (c : Int))], [vr 111])) (S' := MS I1 J cc ss) 3 rfl ?_
    refine ev_cp rfl rfl rfl ⟨Nat.le_of_ble_eq_true rfl, Nat.le_of_ble_eq_true rfl⟩ (sp_peek X _ _ _ _ hT hn e1 hp hkn) (fun I3 J q4 => ?_)
    obtain ⟨rfl, rAI3, rBI3, hp⟩ := q4
    show Ev X k_X4_readRow (124, [some (vr 111), some (vr 118), some (vi 1), some (vl x), none, some (vi (p : Int)), some (vi (c : Int))], [vi (atF tx n (spF tx n e1))]) (MS I3 J cc ss) _
    have hn := (rBI3 2 (by decide)).trans hn
    have hT := hT.cell (rAI3 112 (by decide)) (rAI3 113 (by decide))
    have hkn := spF_le (tx := tx) (n := n) e1 hkn
    have hT1 := pk_T rAI3 rBI3
    have hO := hO.trans hT1.i
    have dP := dP.t (by decide) hT1
    have h70 := (rBI3 7 (by decide)).trans h70
    refine ev_n (fr' := (126, [some (vr 111), some (vr 118), some (vi 1), some (vl x), none, some (vi (p : Int)), some (vi (c : Int))], [vi 44, vi (atF tx n (spF tx n e1))])) (S' := MS I3 J cc ss) 1 rfl ?_
    refine ev_ic (c := .eq) (off := 5) rfl (by decide) (fun (g2 : (atF tx n (spF tx n e1)) = 44) => ?_) (fun (g2 : ¬ ((atF tx n (spF tx n e1)) = 44)) => ?_)
    · show Ev X k_X4_readRow (131, [some (vr 111), some (vr 118), some (vi 1), some (vl x), none, some (vi (p : Int)), some (vi (c : Int))], []) (MS I3 J cc ss) _
      refine ev_n (fr' := (136, [some (vr 111), some (vr 118), some (vi 1), some (vl x), none, some (vi (p : Int)), some (vi (c : Int))], [vi (I3 111 3), vr 111])) (S' := MS I3 J cc ss) 3 rfl ?_
      refine ev_eqi (hp) ?_
      show Ev X k_X4_readRow (136, [some (vr 111), some (vr 118), some (vi 1), some (vl x), none, some (vi (p : Int)), some (vi (c : Int))], [vi ((spF tx n e1) : Int), vr 111]) (MS I3 J cc ss) _
      refine ev_n (fr' := (139, [some (vr 111), some (vr 118), some (vi 1), some (vl x), none, some (vi (p : Int)), some (vi (c : Int))], [])) (S' := MS (up2 I3 111 4 ((spF tx n e1) : Int)) J cc ss) 1 rfl ?_
      refine ev_n (fr' := (144, [some (vr 111), some (vr 118), some (vi 1), some (vl x), none, some (vi (p : Int)), some (vi (c : Int))], [vi (I3 111 3), vr 111])) (S' := MS (up2 I3 111 4 ((spF tx n e1) : Int)) J cc ss) 3 rfl ?_
      refine ev_eqi (hp) ?_
      show Ev X k_X4_readRow (144, [some (vr 111), some (vr 118), some (vi 1), some (vl x), none, some (vi (p : Int)), some (vi (c : Int))], [vi ((spF tx n e1) : Int), vr 111]) (MS (up2 I3 111 4 ((spF tx n e1) : Int)) J cc ss) _
      refine ev_n (fr' := (145, [some (vr 111), some (vr 118), some (vi 1), some (vl x), none, some (vi (p : Int)), some (vi (c : Int))], [vi 1, vi ((spF tx n e1) : Int), vr 111])) (S' := MS (up2 I3 111 4 ((spF tx n e1) : Int)) J cc ss) 1 rfl ?_
      refine ev_add (z := ((spF tx n e1) : Int) + 1) rfl (by omega) (by omega) (by omega) ?_
      show Ev X k_X4_readRow (146, [some (vr 111), some (vr 118), some (vi 1), some (vl x), none, some (vi (p : Int)), some (vi (c : Int))], [vi (((spF tx n e1) : Int) + 1), vr 111]) (MS (up2 I3 111 4 ((spF tx n e1) : Int)) J cc ss) _
      refine ev_n (fr' := (149, [some (vr 111), some (vr 118), some (vi 1), some (vl x), none, some (vi (p : Int)), some (vi (c : Int))], [])) (S' := MS (up2 (up2 I3 111 4 ((spF tx n e1) : Int)) 111 3 (((spF tx n e1) : Int) + 1)) J cc ss) 1 rfl ?_
      refine ev_inc (z := (c : Int) + 1) rfl rfl (by omega) (by omega) (by omega) rfl ?_
      show Ev X k_X4_readRow (152, [some (vr 111), some (vr 118), some (vi 1), some (vl x), none, some (vi (p : Int)), some (vi ((c : Int) + 1))], []) (MS (up2 (up2 I3 111 4 ((spF tx n e1) : Int)) 111 3 (((spF tx n e1) : Int) + 1)) J cc ss) _
      refine ev_n (fr' := (86, [some (vr 111), some (vr 118), some (vi 1), some (vl x), none, some (vi (p : Int)), some (vi ((c : Int) + 1))], [])) (S' := MS (up2 (up2 I3 111 4 ((spF tx n e1) : Int)) 111 3 (((spF tx n e1) : Int) + 1)) J cc ss) 1 rfl ?_
      have hat : atF tx n (spF tx n e1) = 44 := g2
      have hlt : spF tx n e1 < n := by
        rcases Nat.lt_or_ge (spF tx n e1) n with h | h
        · exact h
        · rw [atF_out h] at hat; omega
      by_cases h5 : m = 0
      · subst h5
        have hX : itP tx n p 0 c e q = .inr (-4, spF tx n e1) := pIt_0 (one := fun p => pSh tx n (spF tx n p)) hr1 hat
        rw [hX, show ((c : Int) + 1) = 6 by omega]
        refine (lp_rowX_118 X _ _ cc ss p (spF tx n e1) x (by rw [up2_ne2 _ _ _ _ (by decide), up2_same])).mono ?_
        rintro o T ⟨rfl, rfl⟩
        exact ⟨_, _, _, rfl, rfl, rfl, ⟨fun a h1 h2 h3 => by rw [up2_row _ _ _ _ h1, up2_row _ _ _ _ h1, up2_row _ _ _ _ h1, up2_row _ _ _ _ h1]; exact hO.1 a h1 h2 h3, by rw [up2_ne2 _ _ _ _ (by decide), up2_ne2 _ _ _ _ (by decide), up2_ne2 _ _ _ _ (by decide), up2_ne2 _ _ _ _ (by decide)]; exact hO.2⟩, rfl, ER.mk⟩
      · obtain ⟨m2, rfl⟩ : ∃ m2, m = m2 + 1 := ⟨m - 1, by omega⟩
        have hX : itP tx n p (m2 + 1) c e q = itP tx n p m2 (c + 1) (puS e p c v1) (spF tx n e1 + 1) := pIt_s (one := fun p => pSh tx n (spF tx n p)) hr1 hat
        rw [hX]
        exact lp_rowP X _ _ cc ss I0 p x (c + 1) m2 (by omega) (hT.cell (by rw [up2_row _ _ _ _ (by decide), up2_row _ _ _ _ (by decide)]) (by rw [up2_row _ _ _ _ (by decide), up2_row _ _ _ _ (by decide)])) (by rw [up2_ne2 _ _ _ _ (by decide), up2_ne2 _ _ _ _ (by decide)]; exact hn) (spF tx n e1 + 1) (by rw [up2_same]; omega) (by omega) ((dP.u (by decide)).u (by decide)) (hPK.pu (by omega)) (by rw [puS_cnt]; omega) ⟨fun a h1 h2 h3 => by rw [up2_row _ _ _ _ h1, up2_row _ _ _ _ h1]; exact hO.1 a h1 h2 h3, by rw [up2_ne2 _ _ _ _ (by decide), up2_ne2 _ _ _ _ (by decide)]; exact hO.2⟩ (by rw [up2_ne2 _ _ _ _ (by decide), up2_ne2 _ _ _ _ (by decide)]; exact h70)
    · show Ev X k_X4_readRow (129, [some (vr 111), some (vr 118), some (vi 1), some (vl x), none, some (vi (p : Int)), some (vi (c : Int))], []) (MS I3 J cc ss) _
      refine ev_n (fr' := (130, [some (vr 111), some (vr 118), some (vi 1), some (vl x), none, some (vi (p : Int)), some (vi (c : Int))], [vi 1])) (S' := MS I3 J cc ss) 1 rfl ?_
      refine ev_r rfl rfl rfl ?_
      have hX : itP tx n p m c e q = .inl (spF tx n e1, puS e p c v1) := pIt_no (one := fun p => pSh tx n (spF tx n p)) hr1 (by assumption)
      rw [hX]
      exact ⟨_, _, _, rfl, rfl, rfl, hO, rfl, hp, hkn, h70, dP⟩
  · obtain ⟨rfl, hE⟩ := hz9
    show Ev X k_X4_readRow (103, [some (vr 111), some (vr 118), some (vi 1), some (vl x), none, some (vi (p : Int)), some (vi (c : Int))], [vi 0]) (MS I1 J cc ss) _
    refine ev_n (fr' := (119, [some (vr 111), some (vr 118), some (vi 1), some (vl x), none, some (vi (p : Int)), some (vi (c : Int))], [vi 0])) (S' := MS I1 J cc ss) 2 rfl ?_
    refine ev_r rfl rfl rfl ?_
    have hX : itP tx n p m c e q = .inr (c1, s1) := pIt_er (one := fun p => pSh tx n (spF tx n p)) hr1
    rw [hX]
    exact ⟨_, _, _, rfl, rfl, rfl, hO.trans rT1, rfl, hE⟩
termination_by m
decreasing_by all_goals omega
theorem lp_rowI (X : AX) (I J : Nat → Nat → Int) (cc ss : Nat) (I0 : F2) (p : Nat) (x : Int) (c m : Nat) (hcm : m + c = 5) {tx : F1} {n : Nat} (hT : TB I tx n) (hn : I 111 2 = (n : Int)) (q : Nat) (hp : I 111 3 = (q : Int)) (hkn : q ≤ n) {e D : F1} (hN : ∀ k, k = 11 ∨ (461 ≤ k ∧ k < 469) → e k = D k) (dI : IRep I J 122 e) (dP : PRep I J 118 e) (hwpe : WP e) (hIK : IK e p) (hc : e (19 * p + 309) = (c : Int)) (hO : onlyI 122 I0 I) (h70 : I 111 7 = I0 111 7) : Ev X k_X4_readRow (86, [some (vr 111), some (vr 122), some (vi 0), some (vl x), none, some (vi (p : Int)), some (vi (c : Int))], []) (MS I J cc ss) (PZ cc ss (fun z I' J' => J' = J ∧ CI (fun I d => IRep I J 122 d) 122 I0 I' n (fun d => d) (itI true D tx n p m c e q) z)) := by
  have h900 := hT.le
  have hD8 : D 11 ≤ 8 := by rw [← hN 11 (Or.inl rfl)]; exact hwpe.2.1
  have hp8 : p < 8 := by have := hIK.2.2; have := hIK.1; omega
  refine ev_n (fr' := (90, [some (vr 111), some (vr 122), some (vi 0), some (vl x), none, some (vi (p : Int)), some (vi (c : Int))], [vi 6, vi (c : Int)])) (S' := MS I J cc ss) 2 rfl ?_
  refine ev_ic (c := .ge) (off := 65) rfl (by decide) (fun (g1 : 6 ≤ (c : Int)) => False.elim (by omega)) (fun (g1 : ¬ (6 ≤ (c : Int))) => ?_)
  show Ev X k_X4_readRow (93, [some (vr 111), some (vr 122), some (vi 0), some (vl x), none, some (vi (p : Int)), some (vi (c : Int))], []) (MS I J cc ss) _
  refine ev_n (fr' := (112, [some (vr 111), some (vr 122), some (vi 0), some (vl x), none, some (vi (p : Int)), some (vi (c : Int))], [vi (p : Int), vr 111])) (S' := MS I J cc ss) 4 rfl ?_
  refine ev_cz rfl rfl rfl ⟨Nat.le_of_ble_eq_true rfl, Nat.le_of_ble_eq_true rfl⟩ (sp_readUse X _ _ _ _ p c hT hn q hp hkn dI dP hwpe hIK hc (by omega)) (fun z1 I1 J q2 => ?_)
  obtain ⟨rfl, rT1, hz9⟩ := q2
  rw [pUs_congr hD8 hN] at hz9
  have dP0 := dP
  rcases hr1 : pUs true tx n D (spF tx n q) with ⟨e1, v1⟩ | ⟨c1, s1⟩ <;> rw [hr1] at hz9
  · obtain ⟨rfl, hp, hkn, h71, dI⟩ := hz9
    have hn := rT1.2.trans hn
    have hT := hT.cell (rT1.1 112 (by decide) (by decide) (by decide)) (rT1.1 113 (by decide) (by decide) (by decide))
    have hO := hO.trans rT1
    have h70 := h71.trans h70
    show Ev X k_X4_readRow (115, [some (vr 111), some (vr 122), some (vi 0), some (vl x), none, some (vi (p : Int)), some (vi (c : Int))], [vi 1]) (MS I1 J cc ss) _
    refine ev_n (fr' := (121, [some (vr 111), some (vr 122), some (vi 0), some (vl x), none, some (vi (p : Int)), some (vi (c : Int))], [vr 111])) (S' := MS I1 J cc ss) 2 rfl ?_
    refine ev_cp rfl rfl rfl ⟨Nat.le_of_ble_eq_true rfl, Nat.le_of_ble_eq_true rfl⟩ (sp_peek X _ _ _ _ hT hn e1 hp hkn) (fun I3 J q4 => ?_)
    obtain ⟨rfl, rAI3, rBI3, hp⟩ := q4
    show Ev X k_X4_readRow (124, [some (vr 111), some (vr 122), some (vi 0), some (vl x), none, some (vi (p : Int)), some (vi (c : Int))], [vi (atF tx n (spF tx n e1))]) (MS I3 J cc ss) _
    have hn := (rBI3 2 (by decide)).trans hn
    have hT := hT.cell (rAI3 112 (by decide)) (rAI3 113 (by decide))
    have hkn := spF_le (tx := tx) (n := n) e1 hkn
    have hT1 := pk_T rAI3 rBI3
    have hO := hO.trans hT1.i
    have dI := dI.t (by decide) hT1
    have h70 := (rBI3 7 (by decide)).trans h70
    refine ev_n (fr' := (126, [some (vr 111), some (vr 122), some (vi 0), some (vl x), none, some (vi (p : Int)), some (vi (c : Int))], [vi 44, vi (atF tx n (spF tx n e1))])) (S' := MS I3 J cc ss) 1 rfl ?_
    refine ev_ic (c := .eq) (off := 5) rfl (by decide) (fun (g2 : (atF tx n (spF tx n e1)) = 44) => ?_) (fun (g2 : ¬ ((atF tx n (spF tx n e1)) = 44)) => ?_)
    · show Ev X k_X4_readRow (131, [some (vr 111), some (vr 122), some (vi 0), some (vl x), none, some (vi (p : Int)), some (vi (c : Int))], []) (MS I3 J cc ss) _
      refine ev_n (fr' := (136, [some (vr 111), some (vr 122), some (vi 0), some (vl x), none, some (vi (p : Int)), some (vi (c : Int))], [vi (I3 111 3), vr 111])) (S' := MS I3 J cc ss) 3 rfl ?_
      refine ev_eqi (hp) ?_
      show Ev X k_X4_readRow (136, [some (vr 111), some (vr 122), some (vi 0), some (vl x), none, some (vi (p : Int)), some (vi (c : Int))], [vi ((spF tx n e1) : Int), vr 111]) (MS I3 J cc ss) _
      refine ev_n (fr' := (139, [some (vr 111), some (vr 122), some (vi 0), some (vl x), none, some (vi (p : Int)), some (vi (c : Int))], [])) (S' := MS (up2 I3 111 4 ((spF tx n e1) : Int)) J cc ss) 1 rfl ?_
      refine ev_n (fr' := (144, [some (vr 111), some (vr 122), some (vi 0), some (vl x), none, some (vi (p : Int)), some (vi (c : Int))], [vi (I3 111 3), vr 111])) (S' := MS (up2 I3 111 4 ((spF tx n e1) : Int)) J cc ss) 3 rfl ?_
      refine ev_eqi (hp) ?_
      show Ev X k_X4_readRow (144, [some (vr 111), some (vr 122), some (vi 0), some (vl x), none, some (vi (p : Int)), some (vi (c : Int))], [vi ((spF tx n e1) : Int), vr 111]) (MS (up2 I3 111 4 ((spF tx n e1) : Int)) J cc ss) _
      refine ev_n (fr' := (145, [some (vr 111), some (vr 122), some (vi 0), some (vl x), none, some (vi (p : Int)), some (vi (c : Int))], [vi 1, vi ((spF tx n e1) : Int), vr 111])) (S' := MS (up2 I3 111 4 ((spF tx n e1) : Int)) J cc ss) 1 rfl ?_
      refine ev_add (z := ((spF tx n e1) : Int) + 1) rfl (by omega) (by omega) (by omega) ?_
      show Ev X k_X4_readRow (146, [some (vr 111), some (vr 122), some (vi 0), some (vl x), none, some (vi (p : Int)), some (vi (c : Int))], [vi (((spF tx n e1) : Int) + 1), vr 111]) (MS (up2 I3 111 4 ((spF tx n e1) : Int)) J cc ss) _
      refine ev_n (fr' := (149, [some (vr 111), some (vr 122), some (vi 0), some (vl x), none, some (vi (p : Int)), some (vi (c : Int))], [])) (S' := MS (up2 (up2 I3 111 4 ((spF tx n e1) : Int)) 111 3 (((spF tx n e1) : Int) + 1)) J cc ss) 1 rfl ?_
      refine ev_inc (z := (c : Int) + 1) rfl rfl (by omega) (by omega) (by omega) rfl ?_
      show Ev X k_X4_readRow (152, [some (vr 111), some (vr 122), some (vi 0), some (vl x), none, some (vi (p : Int)), some (vi ((c : Int) + 1))], []) (MS (up2 (up2 I3 111 4 ((spF tx n e1) : Int)) 111 3 (((spF tx n e1) : Int) + 1)) J cc ss) _
      refine ev_n (fr' := (86, [some (vr 111), some (vr 122), some (vi 0), some (vl x), none, some (vi (p : Int)), some (vi ((c : Int) + 1))], [])) (S' := MS (up2 (up2 I3 111 4 ((spF tx n e1) : Int)) 111 3 (((spF tx n e1) : Int) + 1)) J cc ss) 1 rfl ?_
      have hat : atF tx n (spF tx n e1) = 44 := g2
      have hlt : spF tx n e1 < n := by
        rcases Nat.lt_or_ge (spF tx n e1) n with h | h
        · exact h
        · rw [atF_out h] at hat; omega
      by_cases h5 : m = 0
      · subst h5
        have hX : itI true D tx n p 0 c e q = .inr (-4, spF tx n e1) := pIt_0 (one := fun p => pUs true tx n D (spF tx n p)) hr1 hat
        rw [hX, show ((c : Int) + 1) = 6 by omega]
        refine (lp_rowX_122 X _ _ cc ss p (spF tx n e1) x (by rw [up2_ne2 _ _ _ _ (by decide), up2_same])).mono ?_
        rintro o T ⟨rfl, rfl⟩
        exact ⟨_, _, _, rfl, rfl, rfl, ⟨fun a h1 h2 h3 => by rw [up2_row _ _ _ _ h1, up2_row _ _ _ _ h1, up2_row _ _ _ _ h1, up2_row _ _ _ _ h1]; exact hO.1 a h1 h2 h3, by rw [up2_ne2 _ _ _ _ (by decide), up2_ne2 _ _ _ _ (by decide), up2_ne2 _ _ _ _ (by decide), up2_ne2 _ _ _ _ (by decide)]; exact hO.2⟩, rfl, ER.mk⟩
      · obtain ⟨m2, rfl⟩ : ∃ m2, m = m2 + 1 := ⟨m - 1, by omega⟩
        have hX : itI true D tx n p (m2 + 1) c e q = itI true D tx n p m2 (c + 1) (puU e p c v1) (spF tx n e1 + 1) := pIt_s (one := fun p => pUs true tx n D (spF tx n p)) hr1 hat
        rw [hX]
        exact lp_rowI X _ _ cc ss I0 p x (c + 1) m2 (by omega) (hT.cell (by rw [up2_row _ _ _ _ (by decide), up2_row _ _ _ _ (by decide)]) (by rw [up2_row _ _ _ _ (by decide), up2_row _ _ _ _ (by decide)])) (by rw [up2_ne2 _ _ _ _ (by decide), up2_ne2 _ _ _ _ (by decide)]; exact hn) (spF tx n e1 + 1) (by rw [up2_same]; omega) (by omega) (fun k hk => (puU_out (by omega) (by omega)).trans (hN k hk)) ((dI.u (by decide)).u (by decide)) (((PRep.eqv (g' := puU e p c v1) dP0 hwpe (fun k hk => puU_out (by omega) (by omega)) (fun a h1 h2 => ⟨(rAI3 a (by omega)).trans (rT1.1 a (by omega) (by omega) (by omega)), rfl⟩)).u (by decide)).u (by decide)) (hwpe.eqv (fun k h1 h2 => puU_out (by omega) (by omega))) (hIK.pu (by omega)) (by rw [puU_cnt]; omega) ⟨fun a h1 h2 h3 => by rw [up2_row _ _ _ _ h1, up2_row _ _ _ _ h1]; exact hO.1 a h1 h2 h3, by rw [up2_ne2 _ _ _ _ (by decide), up2_ne2 _ _ _ _ (by decide)]; exact hO.2⟩ (by rw [up2_ne2 _ _ _ _ (by decide), up2_ne2 _ _ _ _ (by decide)]; exact h70)
    · show Ev X k_X4_readRow (129, [some (vr 111), some (vr 122), some (vi 0), some (vl x), none, some (vi (p : Int)), some (vi (c : Int))], []) (MS I3 J cc ss) _
      refine ev_n (fr' := (130, [some (vr 111), some (vr 122), some (vi 0), some (vl x), none, some (vi (p : Int)), some (vi (c : Int))], [vi 1])) (S' := MS I3 J cc ss) 1 rfl ?_
      refine ev_r rfl rfl rfl ?_
      have hX : itI true D tx n p m c e q = .inl (spF tx n e1, puU e p c v1) := pIt_no (one := fun p => pUs true tx n D (spF tx n p)) hr1 (by assumption)
      rw [hX]
      exact ⟨_, _, _, rfl, rfl, rfl, hO, rfl, hp, hkn, h70, dI⟩
  · obtain ⟨rfl, hE⟩ := hz9
    show Ev X k_X4_readRow (115, [some (vr 111), some (vr 122), some (vi 0), some (vl x), none, some (vi (p : Int)), some (vi (c : Int))], [vi 0]) (MS I1 J cc ss) _
    refine ev_n (fr' := (119, [some (vr 111), some (vr 122), some (vi 0), some (vl x), none, some (vi (p : Int)), some (vi (c : Int))], [vi 0])) (S' := MS I1 J cc ss) 2 rfl ?_
    refine ev_r rfl rfl rfl ?_
    have hX : itI true D tx n p m c e q = .inr (c1, s1) := pIt_er (one := fun p => pUs true tx n D (spF tx n p)) hr1
    rw [hX]
    exact ⟨_, _, _, rfl, rfl, rfl, hO.trans rT1, rfl, hE⟩
termination_by m
decreasing_by all_goals omega
