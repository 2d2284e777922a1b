/-! THE REFERENCE reads parts and icons (printed by gen/g98e.py) -/
def nmX (f cn s : Nat) (x : Int) (d : F1) : F1 := upd1 (upd1 d (s + f) x) cn ((s : Int) + 1)
/-- behind an item -/
def tlF (one : Nat → (Nat × F1) ⊕ (Int × Nat)) (put : F1 → Nat → F1 → F1) (tx : F1) (n : Nat) : Nat → Nat → F1 → Nat → (Nat × F1) ⊕ (Int × Nat)
  | 0, _, d, e => if atF tx n (spF tx n e) = 44 then .inr (-4, spF tx n e) else .inl (spF tx n e, d)
  | m + 1, c, d, e => if atF tx n (spF tx n e) = 44 then pIt one put tx n m c d (spF tx n e + 1) else .inl (spF tx n e, d)
theorem pIt_tl {one : Nat → (Nat × F1) ⊕ (Int × Nat)} {put : F1 → Nat → F1 → F1} {tx : F1} {n m c p e : Nat} {d v : F1} (h : one p = .inl (e, v)) : pIt one put tx n m c d p = tlF one put tx n m (c + 1) (put d c v) e := by
  cases m
  · unfold pIt tlF; rw [h]
  · rw [pIt, tlF, h]
theorem tl_no {one : Nat → (Nat × F1) ⊕ (Int × Nat)} {put : F1 → Nat → F1 → F1} {tx : F1} {n m c e : Nat} {d : F1} (h : ¬ atF tx n (spF tx n e) = 44) : tlF one put tx n m c d e = .inl (spF tx n e, d) := by
  cases m
  · unfold tlF; exact if_neg h
  · rw [tlF]; exact if_neg h
theorem tl_0 {one : Nat → (Nat × F1) ⊕ (Int × Nat)} {put : F1 → Nat → F1 → F1} {tx : F1} {n c e : Nat} {d : F1} (h : atF tx n (spF tx n e) = 44) : tlF one put tx n 0 c d e = .inr (-4, spF tx n e) := by
  unfold tlF; exact if_pos h
theorem tl_s {one : Nat → (Nat × F1) ⊕ (Int × Nat)} {put : F1 → Nat → F1 → F1} {tx : F1} {n m c e : Nat} {d : F1} (h : atF tx n (spF tx n e) = 44) : tlF one put tx n (m + 1) c d e = pIt one put tx n m c d (spF tx n e + 1) := by
  rw [tlF]; exact if_pos h
abbrev oneP (tx : F1) (n : Nat) : Nat → (Nat × F1) ⊕ (Int × Nat) := fun p => pSh tx n (spF tx n p)
abbrev oneI (st : Bool) (D : F1) (tx : F1) (n : Nat) : Nat → (Nat × F1) ⊕ (Int × Nat) := fun p => pUs st tx n D (spF tx n p)
abbrev ptP (s : Nat) : F1 → Nat → F1 → F1 := fun d c v => puS d s c v
abbrev ptI (s : Nat) : F1 → Nat → F1 → F1 := fun d c v => puU d s c v
/-- a part as the reference reads it, to its end -/
def rPt (tx : F1) (n : Nat) (d : F1) (s a : Nat) : (Nat × F1) ⊕ (Int × Nat) := if 8 ≤ d 11 then .inr (-4, a) else match nnR tx n (fun r => d (r + 461)) s (spF tx n (leF tx n a)) with
  | .inr y => .inr y
  | .inl e => finP tx n (nmX 461 11 s (wdF tx n (spF tx n (leF tx n a)))) (pIt (oneP tx n) (ptP s) tx n 5 0 d e)
def rIc (tx : F1) (n : Nat) (d : F1) (s a : Nat) : (Nat × F1) ⊕ (Int × Nat) := if 8 ≤ d 308 then .inr (-4, a) else match nnR tx n (fun r => d (r + 469)) s (spF tx n (leF tx n a)) with
  | .inr y => .inr y
  | .inl e => finP tx n (nmX 469 308 s (wdF tx n (spF tx n (leF tx n a)))) (if atF tx n (spF tx n e) = 59 then .inl (spF tx n e, d) else pIt (oneI false d tx n) (ptI s) tx n 5 0 d e)
theorem nnR_le {tx : F1} {n m a e : Nat} {f : Nat → Int} (h : nnR tx n f m a = .inl e) : e = leF tx n a ∧ wdF tx n a ≠ 0 := by
  unfold nnR at h
  by_cases h1 : wdF tx n a = 0
  · rw [if_pos h1] at h; cases h
  · rw [if_neg h1] at h
    split at h
    · cases h; exact ⟨rfl, h1⟩
    · cases h
theorem lp_rPE (X : AX) (I J : Nat → Nat → Int) (cc ss : Nat) (s : Nat) (x : Int) (hwE : I 135 11 ≠ 0) : Ev X k_X9_readsPart (64, [some (vr 135), some (vi (s : Int)), some (vl x), none, some (vi (37 * (s : Int) + 12))], []) (MS I J cc ss) (fun o T => o = .inl none ∧ T = MS I J cc ss) := by
  refine ev_n (fr' := (67, [some (vr 135), some (vi (s : Int)), some (vl x), none, some (vi (37 * (s : Int) + 12))], [vi 44, vr 135])) (S' := MS I J cc ss) 2 rfl ?_
  refine ev_cv rfl rfl rfl ⟨Nat.le_of_ble_eq_true rfl, Nat.le_of_ble_eq_true rfl⟩ (sp_isSignE X _ _ _ _ 44 hwE) ?_
  show Ev X k_X9_readsPart (70, [some (vr 135), some (vi (s : Int)), some (vl x), none, some (vi (37 * (s : Int) + 12))], [vi 0]) (MS I J cc ss) _
  refine ev_n (fr' := (118, [some (vr 135), some (vi (s : Int)), some (vl x), none, some (vi (37 * (s : Int) + 12))], [vi 59, vr 135, vr 135])) (S' := MS I J cc ss) 4 rfl ?_
  refine ev_cv rfl rfl rfl ⟨Nat.le_of_ble_eq_true rfl, Nat.le_of_ble_eq_true rfl⟩ (sp_isSignE X _ _ _ _ 59 hwE) ?_
  show Ev X k_X9_readsPart (121, [some (vr 135), some (vi (s : Int)), some (vl x), none, some (vi (37 * (s : Int) + 12))], [vi 0, vr 135]) (MS I J cc ss) _
  refine ev_cv rfl rfl rfl ⟨Nat.le_of_ble_eq_true rfl, Nat.le_of_ble_eq_true rfl⟩ (sp_mustE0 X _ _ _ _ hwE) ?_
  show Ev X k_X9_readsPart (124, [some (vr 135), some (vi (s : Int)), some (vl x), none, some (vi (37 * (s : Int) + 12))], []) (MS I J cc ss) _
  refine ev_n (fr' := (128, [some (vr 135), some (vi (s : Int)), some (vl x), none, some (vi (37 * (s : Int) + 12))], [vi (I 135 11)])) (S' := MS I J cc ss) 2 rfl ?_
  refine ev_if (c := .eq) (off := 4) rfl (by decide) (fun (g1 : (I 135 11) = 0) => False.elim (hwE g1)) (fun (g1 : ¬ ((I 135 11) = 0)) => ?_)
  show Ev X k_X9_readsPart (131, [some (vr 135), some (vi (s : Int)), some (vl x), none, some (vi (37 * (s : Int) + 12))], []) (MS I J cc ss) _
  refine ev_r rfl rfl rfl ?_
  exact ⟨rfl, rfl⟩
theorem lp_rPI (X : AX) (I J : Nat → Nat → Int) (cc ss : Nat) (I0 J0 : F2) {tx : F1} {n : Nat} (hR : RB I tx n) (s : Nat) (x : Int) (c m : Nat) (hmc : m + c = 6) (hs8 : s < 8) {r : F1}  (e : Nat) (hK : TK I J tx n (spF tx n e)) (hw0 : I 135 11 = 0) (hen : e ≤ n) (hd : J 137 = r) (hc : r (37 * s + 12) = (c : Int)) (hrc : r 11 = (s : Int)) (hz : ∀ k, 37 * s + 6 * c + 13 ≤ k → k < 308 → r k = 0) (hO : onlyF I0 I J0 J) : Ev X k_X9_readsPart (64, [some (vr 135), some (vi (s : Int)), some (vl x), none, some (vi (37 * (s : Int) + 12))], []) (MS I J cc ss) (PV cc ss none (fun I' J' => RS I0 I' J0 J' tx n (finP tx n (nmX 461 11 s x) (tlF (oneP tx n) (ptP s) tx n m c r e)))) := by
  have hx := True.intro
  refine ev_n (fr' := (67, [some (vr 135), some (vi (s : Int)), some (vl x), none, some (vi (37 * (s : Int) + 12))], [vi 44, vr 135])) (S' := MS I J cc ss) 2 rfl ?_
  refine ev_cv rfl rfl rfl ⟨Nat.le_of_ble_eq_true rfl, Nat.le_of_ble_eq_true rfl⟩ (sp_isSign X _ _ _ _ hR (spF tx n e) hK hw0 44 (by decide) (by decide) (by decide)) ?_
  show Ev X k_X9_readsPart (70, [some (vr 135), some (vi (s : Int)), some (vl x), none, some (vi (37 * (s : Int) + 12))], [vi (if atF tx n (spF tx n e) = 44 then 1 else 0)]) (MS I J cc ss) _
  refine ev_beq _ rfl (by decide) (fun (g1 : ¬ (atF tx n (spF tx n e) = 44)) => ?_) (fun (g1 : atF tx n (spF tx n e) = 44) => ?_)
  · show Ev X k_X9_readsPart (114, [some (vr 135), some (vi (s : Int)), some (vl x), none, some (vi (37 * (s : Int) + 12))], []) (MS I J cc ss) _
    refine ev_n (fr' := (118, [some (vr 135), some (vi (s : Int)), some (vl x), none, some (vi (37 * (s : Int) + 12))], [vi 59, vr 135, vr 135])) (S' := MS I J cc ss) 3 rfl ?_
    refine ev_cv rfl rfl rfl ⟨Nat.le_of_ble_eq_true rfl, Nat.le_of_ble_eq_true rfl⟩ (sp_isSign X _ _ _ _ hR (spF tx n e) hK hw0 59 (by decide) (by decide) (by decide)) ?_
    show Ev X k_X9_readsPart (121, [some (vr 135), some (vi (s : Int)), some (vl x), none, some (vi (37 * (s : Int) + 12))], [vi (if atF tx n (spF tx n e) = 59 then 1 else 0), vr 135]) (MS I J cc ss) _
    refine ev_sp _ (fun (g2 : atF tx n (spF tx n e) = 59) => ?_) (fun (g2 : ¬ (atF tx n (spF tx n e) = 59)) => ?_)
    · show Ev X k_X9_readsPart (121, [some (vr 135), some (vi (s : Int)), some (vl x), none, some (vi (37 * (s : Int) + 12))], [vi 1, vr 135]) (MS I J cc ss) _
      refine ev_cp rfl rfl rfl ⟨Nat.le_of_ble_eq_true rfl, Nat.le_of_ble_eq_true rfl⟩ (sp_mustT X _ _ _ _ hR (spF tx n e) hK hw0) (fun I1 J2 q3 => ?_)
      obtain ⟨hK, hO9, hw0⟩ := q3
      show Ev X k_X9_readsPart (124, [some (vr 135), some (vi (s : Int)), some (vl x), none, some (vi (37 * (s : Int) + 12))], []) (MS I1 J2 cc ss) _
      have h59 := g2
      have hsg := (sg_at (c := 59) (by decide) (by decide) (by decide)).mp h59
      have hlt := (kd_2.mp hsg.1).1
      rw [en_2 (kd_2.mp hsg.1)] at hK
      have hO := hO.trans hO9.f
      have hd := (hO9.2.2 137 (by decide)).trans hd
      have hR := hR.l hO9
      refine ev_n (fr' := (128, [some (vr 135), some (vi (s : Int)), some (vl x), none, some (vi (37 * (s : Int) + 12))], [vi (I1 135 11)])) (S' := MS I1 J2 cc ss) 2 rfl ?_
      refine ev_eqi (hw0) ?_
      show Ev X k_X9_readsPart (128, [some (vr 135), some (vi (s : Int)), some (vl x), none, some (vi (37 * (s : Int) + 12))], [vi 0]) (MS I1 J2 cc ss) _
      refine ev_n (fr' := (140, [some (vr 135), some (vi (s : Int)), some (vl x), none, some (vi (37 * (s : Int) + 12))], [vi (s : Int), vi 461, vr 137])) (S' := MS I1 J2 cc ss) 5 rfl ?_
      refine ev_add (z := (s : Int) + 461) rfl (by omega) (by omega) (by omega) ?_
      show Ev X k_X9_readsPart (141, [some (vr 135), some (vi (s : Int)), some (vl x), none, some (vi (37 * (s : Int) + 12))], [vi ((s : Int) + 461), vr 137]) (MS I1 J2 cc ss) _
      refine ev_n (fr' := (142, [some (vr 135), some (vi (s : Int)), some (vl x), none, some (vi (37 * (s : Int) + 12))], [vl x, vi ((s : Int) + 461), vr 137])) (S' := MS I1 J2 cc ss) 1 rfl ?_
      refine ev_lasN (j := s + 461) rfl rfl (by omega) (by omega) ?_
      show Ev X k_X9_readsPart (143, [some (vr 135), some (vi (s : Int)), some (vl x), none, some (vi (37 * (s : Int) + 12))], []) (MS I1 (up2 J2 137 (s + 461) x) cc ss) _
      have hd : (up2 J2 137 (s + 461) x) 137 = _ := up2_u1 hd
      have hO := hO.j (k := s + 461) (v := x)
      have hK := hK.j (k := s + 461) (v := x)
      refine ev_n (fr' := (150, [some (vr 135), some (vi (s : Int)), some (vl x), none, some (vi (37 * (s : Int) + 12))], [vi 11, vr 137, vi 11, vr 137])) (S' := MS I1 (up2 J2 137 (s + 461) x) cc ss) 4 rfl ?_
      refine ev_laN (j := 11) (z := (s : Int)) rfl rfl (by omega) (by omega) ((congrFun hd _).trans ((upd1_ne _ _ _ (by omega)).trans hrc)) ?_
      show Ev X k_X9_readsPart (151, [some (vr 135), some (vi (s : Int)), some (vl x), none, some (vi (37 * (s : Int) + 12))], [vl (s : Int), vi 11, vr 137]) (MS I1 (up2 J2 137 (s + 461) x) cc ss) _
      refine ev_n (fr' := (152, [some (vr 135), some (vi (s : Int)), some (vl x), none, some (vi (37 * (s : Int) + 12))], [vl 1, vl (s : Int), vi 11, vr 137])) (S' := MS I1 (up2 J2 137 (s + 461) x) cc ss) 1 rfl ?_
      refine ev_ladd (z := (s : Int) + 1) rfl (by omega) (by omega) (by omega) ?_
      show Ev X k_X9_readsPart (153, [some (vr 135), some (vi (s : Int)), some (vl x), none, some (vi (37 * (s : Int) + 12))], [vl ((s : Int) + 1), vi 11, vr 137]) (MS I1 (up2 J2 137 (s + 461) x) cc ss) _
      refine ev_lasN (j := 11) rfl rfl (by omega) (by omega) ?_
      show Ev X k_X9_readsPart (154, [some (vr 135), some (vi (s : Int)), some (vl x), none, some (vi (37 * (s : Int) + 12))], []) (MS I1 (up2 (up2 J2 137 (s + 461) x) 137 11 ((s : Int) + 1)) cc ss) _
      have hd : (up2 (up2 J2 137 (s + 461) x) 137 11 ((s : Int) + 1)) 137 = _ := up2_u1 hd
      have hO := hO.j (k := 11) (v := ((s : Int) + 1))
      have hK := hK.j (k := 11) (v := ((s : Int) + 1))
      refine ev_r rfl rfl rfl ?_
      have hn44 : ¬ atF tx n (spF tx n e) = 44 := by assumption
      rw [tl_no hn44]
      rw [fin_1 (by rw [spF_idem]; assumption), spF_idem]
      exact ⟨_, _, rfl, rfl, hO, hK, hw0, hd, by omega⟩
    · show Ev X k_X9_readsPart (121, [some (vr 135), some (vi (s : Int)), some (vl x), none, some (vi (37 * (s : Int) + 12))], [vi 0, vr 135]) (MS I J cc ss) _
      refine ev_cv rfl rfl rfl ⟨Nat.le_of_ble_eq_true rfl, Nat.le_of_ble_eq_true rfl⟩ (sp_mustF X _ _ _ _ (spF tx n e) hw0 hK.2.2.1) ?_
      show Ev X k_X9_readsPart (124, [some (vr 135), some (vi (s : Int)), some (vl x), none, some (vi (37 * (s : Int) + 12))], []) (MS (up2 (up2 I 135 11 (-2)) 135 12 (spF tx n e : Int)) J cc ss) _
      have hwE : (up2 (up2 I 135 11 (-2)) 135 12 (spF tx n e : Int)) 135 11 ≠ 0 := EE.ne (EE.mk (by decide))
      refine ev_n (fr' := (131, [some (vr 135), some (vi (s : Int)), some (vl x), none, some (vi (37 * (s : Int) + 12))], [])) (S' := MS (up2 (up2 I 135 11 (-2)) 135 12 (spF tx n e : Int)) J cc ss) 3 rfl ?_
      refine ev_r rfl rfl rfl ?_
      have hn44 : ¬ atF tx n (spF tx n e) = 44 := by assumption
      rw [tl_no hn44]
      rw [fin_0 (by rw [spF_idem]; assumption), spF_idem]
      exact ⟨_, _, rfl, rfl, hO.e, EE.mk (by decide)⟩
  · show Ev X k_X9_readsPart (73, [some (vr 135), some (vi (s : Int)), some (vl x), none, some (vi (37 * (s : Int) + 12))], []) (MS I J cc ss) _
    refine ev_n (fr' := (79, [some (vr 135), some (vi (s : Int)), some (vl x), none, some (vi (37 * (s : Int) + 12))], [vi (37 * (s : Int) + 12), vr 137])) (S' := MS I J cc ss) 3 rfl ?_
    refine ev_laN (j := 37 * s + 12) (z := (c : Int)) rfl rfl (by omega) (by omega) ((congrFun hd _).trans hc) ?_
    show Ev X k_X9_readsPart (80, [some (vr 135), some (vi (s : Int)), some (vl x), none, some (vi (37 * (s : Int) + 12))], [vl (c : Int)]) (MS I J cc ss) _
    refine ev_n (fr' := (83, [some (vr 135), some (vi (s : Int)), some (vl x), none, some (vi (37 * (s : Int) + 12))], [vl 6, vl (c : Int)])) (S' := MS I J cc ss) 1 rfl ?_
    refine ev_lc (c := .ne) (off := 9) rfl rfl (by decide) (fun (g3 : (c : Int) ≠ 6) => ?_) (fun (g3 : ¬ ((c : Int) ≠ 6)) => ?_)
    · show Ev X k_X9_readsPart (93, [some (vr 135), some (vi (s : Int)), some (vl x), none, some (vi (37 * (s : Int) + 12))], []) (MS I J cc ss) _
      refine ev_n (fr' := (95, [some (vr 135), some (vi (s : Int)), some (vl x), none, some (vi (37 * (s : Int) + 12))], [vi 1, vr 135])) (S' := MS I J cc ss) 2 rfl ?_
      refine ev_cp rfl rfl rfl ⟨Nat.le_of_ble_eq_true rfl, Nat.le_of_ble_eq_true rfl⟩ (sp_mustT X _ _ _ _ hR (spF tx n e) hK hw0) (fun I4 J5 q6 => ?_)
      obtain ⟨hK, hO9, hw0⟩ := q6
      show Ev X k_X9_readsPart (98, [some (vr 135), some (vi (s : Int)), some (vl x), none, some (vi (37 * (s : Int) + 12))], []) (MS I4 J5 cc ss) _
      have h44 : atF tx n (spF tx n e) = 44 := by assumption
      have hsg := (sg_at (c := 44) (by decide) (by decide) (by decide)).mp h44
      have hlt := (kd_2.mp hsg.1).1
      rw [en_2 (kd_2.mp hsg.1)] at hK
      have hO := hO.trans hO9.f
      have hd := (hO9.2.2 137 (by decide)).trans hd
      have hR := hR.l hO9
      refine ev_n (fr' := (102, [some (vr 135), some (vi (s : Int)), some (vl x), none, some (vi (37 * (s : Int) + 12))], [vi (I4 135 11)])) (S' := MS I4 J5 cc ss) 2 rfl ?_
      refine ev_eqi (hw0) ?_
      show Ev X k_X9_readsPart (102, [some (vr 135), some (vi (s : Int)), some (vl x), none, some (vi (37 * (s : Int) + 12))], [vi 0]) (MS I4 J5 cc ss) _
      refine ev_n (fr' := (108, [some (vr 135), some (vi (s : Int)), some (vl x), none, some (vi (37 * (s : Int) + 12))], [vi (37 * (s : Int) + 12), vr 135])) (S' := MS I4 J5 cc ss) 3 rfl ?_
      refine ev_cp rfl rfl rfl ⟨Nat.le_of_ble_eq_true rfl, Nat.le_of_ble_eq_true rfl⟩ (sp_readsShape X _ _ _ _ hR (spF tx n (spF tx n e + 1)) hK hw0 s c (by omega) (by omega) hd hc hz) (fun I7 J8 q9 => ?_)
      obtain ⟨hO9, hz9⟩ := q9
      rcases hr1 : pSh tx n (spF tx n (spF tx n e + 1)) with ⟨e1, v1⟩ | ⟨c1, s1⟩ <;> rw [hr1] at hz9
      · obtain ⟨hK, hw0, hd, hen1⟩ := hz9
        have hR : RB I7 tx n := ⟨hR.1, (hO9.2.1 7 (by omega)).trans hR.2.1, fun k hk => by rw [hO9.1 139 (by decide)]; exact hR.2.2 k hk⟩
        have hO := hO.trans hO9
        show Ev X k_X9_readsPart (111, [some (vr 135), some (vi (s : Int)), some (vl x), none, some (vi (37 * (s : Int) + 12))], []) (MS I7 J8 cc ss) _
        refine ev_n (fr' := (64, [some (vr 135), some (vi (s : Int)), some (vl x), none, some (vi (37 * (s : Int) + 12))], [])) (S' := MS I7 J8 cc ss) 1 rfl ?_
        obtain ⟨m2, rfl⟩ : ∃ m2, m = m2 + 1 := ⟨m - 1, by omega⟩
        rw [tl_s h44, pIt_tl (one := (oneP tx n)) hr1]
        exact lp_rPI X _ _ cc ss I0 J0 hR s x (c + 1) m2 (by omega) (by omega)  e1 hK hw0 hen1 hd (puS_cnt.trans (by omega)) ((puS_out (by omega) (by omega)).trans hrc) (fun k h1 h2 => (puS_out (by omega) (by omega)).trans (hz k (by omega) h2)) hO
      · have hE := hz9
        have hwE := hE.ne
        have hO := hO.trans hO9
        show Ev X k_X9_readsPart (111, [some (vr 135), some (vi (s : Int)), some (vl x), none, some (vi (37 * (s : Int) + 12))], []) (MS I7 J8 cc ss) _
        refine ev_n (fr' := (64, [some (vr 135), some (vi (s : Int)), some (vl x), none, some (vi (37 * (s : Int) + 12))], [])) (S' := MS I7 J8 cc ss) 1 rfl ?_
        obtain ⟨m2, rfl⟩ : ∃ m2, m = m2 + 1 := ⟨m - 1, by omega⟩
        rw [tl_s h44, pIt_er (one := (oneP tx n)) hr1]
        refine (lp_rPE X _ _ cc ss s x hwE).mono ?_
        rintro o T ⟨rfl, rfl⟩
        exact ⟨_, _, rfl, rfl, hO, hE⟩
    · show Ev X k_X9_readsPart (87, [some (vr 135), some (vi (s : Int)), some (vl x), none, some (vi (37 * (s : Int) + 12))], []) (MS I J cc ss) _
      refine ev_n (fr' := (90, [some (vr 135), some (vi (s : Int)), some (vl x), none, some (vi (37 * (s : Int) + 12))], [vi (-4), vr 135])) (S' := MS I J cc ss) 2 rfl ?_
      refine ev_cv rfl rfl rfl ⟨Nat.le_of_ble_eq_true rfl, Nat.le_of_ble_eq_true rfl⟩ (sp_fails X _ _ _ _ (-4) (spF tx n e) hw0 hK.2.2.1) ?_
      show Ev X k_X9_readsPart (93, [some (vr 135), some (vi (s : Int)), some (vl x), none, some (vi (37 * (s : Int) + 12))], []) (MS (up2 (up2 I 135 11 (-4)) 135 12 (spF tx n e : Int)) J cc ss) _
      have hwE : (up2 (up2 I 135 11 (-4)) 135 12 (spF tx n e : Int)) 135 11 ≠ 0 := EE.ne (EE.mk (by decide))
      refine ev_n (fr' := (95, [some (vr 135), some (vi (s : Int)), some (vl x), none, some (vi (37 * (s : Int) + 12))], [vi 1, vr 135])) (S' := MS (up2 (up2 I 135 11 (-4)) 135 12 (spF tx n e : Int)) J cc ss) 2 rfl ?_
      refine ev_cv rfl rfl rfl ⟨Nat.le_of_ble_eq_true rfl, Nat.le_of_ble_eq_true rfl⟩ (sp_mustE1 X _ _ _ _ hwE) ?_
      show Ev X k_X9_readsPart (98, [some (vr 135), some (vi (s : Int)), some (vl x), none, some (vi (37 * (s : Int) + 12))], []) (MS (up2 (up2 I 135 11 (-4)) 135 12 (spF tx n e : Int)) J cc ss) _
      refine ev_n (fr' := (64, [some (vr 135), some (vi (s : Int)), some (vl x), none, some (vi (37 * (s : Int) + 12))], [])) (S' := MS (up2 (up2 I 135 11 (-4)) 135 12 (spF tx n e : Int)) J cc ss) 3 rfl ?_
      have e0 : m = 0 := by omega
      subst e0
      rw [tl_0 (by assumption)]
      refine (lp_rPE X _ _ cc ss s x hwE).mono ?_
      rintro o T ⟨rfl, rfl⟩
      exact ⟨_, _, rfl, rfl, hO.e, EE.mk (by decide)⟩
termination_by m
decreasing_by all_goals omega
theorem sp_readsPart (X : AX) (I J : Nat → Nat → Int) (cc ss : Nat) {tx : F1} {n : Nat} (hR : RB I tx n) (a : Nat) (hK : TK I J tx n a) (hw0 : I 135 11 = 0) (hzw : wdF tx n a = 525908) {d : F1} (hd : J 137 = d) (s : Nat) (hs : d 11 = (s : Int)) (hs9 : s ≤ 8) (hd11 : 0 ≤ d 11 ∧ d 11 ≤ 8) (hz : ∀ k, 37 * s + 12 ≤ k → k < 308 → d k = 0) : Ev X k_X9_readsPart (0, [some (vr 135), none, none, none, none], []) (MS I J cc ss) (PV cc ss none (fun I' J' => RS I I' J J' tx n (rPt tx n d s a))) := by
  have ha := hK.1
  have hO := onlyF.refl I J
  have hnz : wdF tx n a ≠ 0 := by omega
  refine ev_n (fr' := (6, [some (vr 135), none, none, none, none], [vi 11, vr 137])) (S' := MS I J cc ss) 3 rfl ?_
  refine ev_laN (j := 11) (z := (s : Int)) rfl rfl (by omega) (by omega) ((congrFun hd _).trans hs) ?_
  show Ev X k_X9_readsPart (7, [some (vr 135), none, none, none, none], [vl (s : Int)]) (MS I J cc ss) _
  refine ev_l2i rfl (by omega) (by omega) ?_
  show Ev X k_X9_readsPart (8, [some (vr 135), none, none, none, none], [vi (s : Int)]) (MS I J cc ss) _
  refine ev_n (fr' := (12, [some (vr 135), some (vi (s : Int)), none, none, none], [vi 8, vi (s : Int)])) (S' := MS I J cc ss) 3 rfl ?_
  refine ev_ic (c := .ne) (off := 9) rfl (by decide) (fun (g1 : (s : Int) ≠ 8) => ?_) (fun (g1 : ¬ ((s : Int) ≠ 8)) => ?_)
  · show Ev X k_X9_readsPart (21, [some (vr 135), some (vi (s : Int)), none, none, none], []) (MS I J cc ss) _
    refine ev_n (fr' := (25, [some (vr 135), some (vi (s : Int)), none, none, none], [vr 1000102, vr 135, vr 135])) (S' := MS I J cc ss) 3 rfl ?_
    refine ev_cv rfl rfl rfl ⟨Nat.le_of_ble_eq_true rfl, Nat.le_of_ble_eq_true rfl⟩ (sp_isWord_2 X _ _ _ _ hR a hK hw0) ?_
    show Ev X k_X9_readsPart (28, [some (vr 135), some (vi (s : Int)), none, none, none], [vi (if wdF tx n a = 525908 then 1 else 0), vr 135]) (MS I J cc ss) _
    refine ev_s1 _ (hzw) ?_
    show Ev X k_X9_readsPart (28, [some (vr 135), some (vi (s : Int)), none, none, none], [vi 1, vr 135]) (MS I J cc ss) _
    refine ev_cp rfl rfl rfl ⟨Nat.le_of_ble_eq_true rfl, Nat.le_of_ble_eq_true rfl⟩ (sp_mustT X _ _ _ _ hR a hK hw0) (fun I1 J2 q3 => ?_)
    obtain ⟨hK, hO9, hw0⟩ := q3
    show Ev X k_X9_readsPart (31, [some (vr 135), some (vi (s : Int)), none, none, none], []) (MS I1 J2 cc ss) _
    rw [en_0 (wd_kd hnz).1] at hK
    have hO := hO.trans hO9.f
    have hd := (hO9.2.2 137 (by decide)).trans hd
    have hR := hR.l hO9
    refine ev_n (fr' := (37, [some (vr 135), some (vi (s : Int)), none, none, none], [vl (s : Int), vi 461, vr 135])) (S' := MS I1 J2 cc ss) 4 rfl ?_
    refine ev_cp rfl rfl rfl ⟨Nat.le_of_ble_eq_true rfl, Nat.le_of_ble_eq_true rfl⟩ (sp_newName X _ _ _ _ hR (spF tx n (leF tx n a)) hK hw0 461 s (by omega) (by omega) hd) (fun I4 J5 q6 => ?_)
    obtain ⟨hO9, hz9⟩ := q6
    rcases hrn : nnR tx n (fun r => d (r + 461)) s (spF tx n (leF tx n a)) with e0 | ⟨c0, s0⟩ <;> rw [hrn] at hz9
    · obtain ⟨hK, hw0, hen0⟩ := hz9
      have hR := hR.l hO9
      have hO := hO.trans hO9.f
      have hd := (hO9.2.2 137 (by decide)).trans hd
      have hX : rPt tx n d s a = finP tx n (nmX 461 11 s (wdF tx n (spF tx n (leF tx n a)))) (pIt (oneP tx n) (ptP s) tx n 5 0 d e0) := by unfold rPt; rw [if_neg (by omega), hrn]
      show Ev X k_X9_readsPart (40, [some (vr 135), some (vi (s : Int)), none, none, none], [vl (wdF tx n (spF tx n (leF tx n a)))]) (MS I4 J5 cc ss) _
      refine ev_n (fr' := (45, [some (vr 135), some (vi (s : Int)), some (vl (wdF tx n (spF tx n (leF tx n a)))), none, none], [vi (I4 135 11)])) (S' := MS I4 J5 cc ss) 3 rfl ?_
      refine ev_eqi (hw0) ?_
      show Ev X k_X9_readsPart (45, [some (vr 135), some (vi (s : Int)), some (vl (wdF tx n (spF tx n (leF tx n a)))), none, none], [vi 0]) (MS I4 J5 cc ss) _
      refine ev_n (fr' := (54, [some (vr 135), some (vi (s : Int)), some (vl (wdF tx n (spF tx n (leF tx n a)))), none, none], [vi (s : Int), vi 37, vi 12])) (S' := MS I4 J5 cc ss) 4 rfl ?_
      refine ev_mul (z := 37 * (s : Int)) rfl (by omega) (by omega) (by omega) ?_
      show Ev X k_X9_readsPart (55, [some (vr 135), some (vi (s : Int)), some (vl (wdF tx n (spF tx n (leF tx n a)))), none, none], [vi (37 * (s : Int)), vi 12]) (MS I4 J5 cc ss) _
      refine ev_add (z := 37 * (s : Int) + 12) rfl (by omega) (by omega) (by omega) ?_
      show Ev X k_X9_readsPart (56, [some (vr 135), some (vi (s : Int)), some (vl (wdF tx n (spF tx n (leF tx n a)))), none, none], [vi (37 * (s : Int) + 12)]) (MS I4 J5 cc ss) _
      refine ev_n (fr' := (61, [some (vr 135), some (vi (s : Int)), some (vl (wdF tx n (spF tx n (leF tx n a)))), none, some (vi (37 * (s : Int) + 12))], [vi (37 * (s : Int) + 12), vr 135])) (S' := MS I4 J5 cc ss) 3 rfl ?_
      refine ev_cp rfl rfl rfl ⟨Nat.le_of_ble_eq_true rfl, Nat.le_of_ble_eq_true rfl⟩ (sp_readsShape X _ _ _ _ hR (spF tx n e0) hK hw0 s 0 (by omega) (by omega) hd (hz _ (by omega) (by omega)) (fun k h1 h2 => hz k (by omega) h2)) (fun I7 J8 q9 => ?_)
      obtain ⟨hO9, hz9⟩ := q9
      rcases hr1 : pSh tx n (spF tx n e0) with ⟨e1, v1⟩ | ⟨c1, s1⟩ <;> rw [hr1] at hz9
      · obtain ⟨hK, hw0, hd, hen1⟩ := hz9
        have hR : RB I7 tx n := ⟨hR.1, (hO9.2.1 7 (by omega)).trans hR.2.1, fun k hk => by rw [hO9.1 139 (by decide)]; exact hR.2.2 k hk⟩
        have hO := hO.trans hO9
        show Ev X k_X9_readsPart (64, [some (vr 135), some (vi (s : Int)), some (vl (wdF tx n (spF tx n (leF tx n a)))), none, some (vi (37 * (s : Int) + 12))], []) (MS I7 J8 cc ss) _
        rw [hX, pIt_tl (one := (oneP tx n)) hr1]
        exact lp_rPI X _ _ cc ss I J hR s (wdF tx n (spF tx n (leF tx n a))) (0 + 1) 5 rfl (by omega) e1 hK hw0 hen1 hd (puS_cnt.trans rfl) ((puS_out (by omega) (by omega)).trans hs) (fun k h1 h2 => (puS_out (by omega) (by omega)).trans (hz k (by omega) h2)) hO
      · have hE := hz9
        have hwE := hE.ne
        have hO := hO.trans hO9
        show Ev X k_X9_readsPart (64, [some (vr 135), some (vi (s : Int)), some (vl (wdF tx n (spF tx n (leF tx n a)))), none, some (vi (37 * (s : Int) + 12))], []) (MS I7 J8 cc ss) _
        rw [hX, pIt_er (one := (oneP tx n)) hr1]
        refine (lp_rPE X _ _ cc ss s (wdF tx n (spF tx n (leF tx n a))) hwE).mono ?_
        rintro o T ⟨rfl, rfl⟩
        exact ⟨_, _, rfl, rfl, hO, hE⟩
    · have hE := hz9
      have hwE := hE.ne
      have hO := hO.trans hO9.f
      have hX : rPt tx n d s a = .inr (c0, s0) := by unfold rPt; rw [if_neg (by omega), hrn]
      show Ev X k_X9_readsPart (40, [some (vr 135), some (vi (s : Int)), none, none, none], [vl (wdF tx n (spF tx n (leF tx n a)))]) (MS I4 J5 cc ss) _
      refine ev_n (fr' := (45, [some (vr 135), some (vi (s : Int)), some (vl (wdF tx n (spF tx n (leF tx n a)))), none, none], [vi (I4 135 11)])) (S' := MS I4 J5 cc ss) 3 rfl ?_
      refine ev_if (c := .eq) (off := 4) rfl (by decide) (fun (g2 : (I4 135 11) = 0) => False.elim (hwE g2)) (fun (g2 : ¬ ((I4 135 11) = 0)) => ?_)
      show Ev X k_X9_readsPart (48, [some (vr 135), some (vi (s : Int)), some (vl (wdF tx n (spF tx n (leF tx n a)))), none, none], []) (MS I4 J5 cc ss) _
      refine ev_r rfl rfl rfl ?_
      rw [hX]
      exact ⟨_, _, rfl, rfl, hO, hE⟩
  · show Ev X k_X9_readsPart (15, [some (vr 135), some (vi (s : Int)), none, none, none], []) (MS I J cc ss) _
    refine ev_n (fr' := (18, [some (vr 135), some (vi (s : Int)), none, none, none], [vi (-4), vr 135])) (S' := MS I J cc ss) 2 rfl ?_
    refine ev_cv rfl rfl rfl ⟨Nat.le_of_ble_eq_true rfl, Nat.le_of_ble_eq_true rfl⟩ (sp_fails X _ _ _ _ (-4) a hw0 hK.2.2.1) ?_
    show Ev X k_X9_readsPart (21, [some (vr 135), some (vi (s : Int)), none, none, none], []) (MS (up2 (up2 I 135 11 (-4)) 135 12 (a : Int)) J cc ss) _
    have hwE : (up2 (up2 I 135 11 (-4)) 135 12 (a : Int)) 135 11 ≠ 0 := EE.ne (EE.mk (by decide))
    refine ev_n (fr' := (25, [some (vr 135), some (vi (s : Int)), none, none, none], [vr 1000102, vr 135, vr 135])) (S' := MS (up2 (up2 I 135 11 (-4)) 135 12 (a : Int)) J cc ss) 3 rfl ?_
    refine ev_cv rfl rfl rfl ⟨Nat.le_of_ble_eq_true rfl, Nat.le_of_ble_eq_true rfl⟩ (sp_isWordE_2 X _ _ _ _ hwE) ?_
    show Ev X k_X9_readsPart (28, [some (vr 135), some (vi (s : Int)), none, none, none], [vi 0, vr 135]) (MS (up2 (up2 I 135 11 (-4)) 135 12 (a : Int)) J cc ss) _
    refine ev_cv rfl rfl rfl ⟨Nat.le_of_ble_eq_true rfl, Nat.le_of_ble_eq_true rfl⟩ (sp_mustE0 X _ _ _ _ hwE) ?_
    show Ev X k_X9_readsPart (31, [some (vr 135), some (vi (s : Int)), none, none, none], []) (MS (up2 (up2 I 135 11 (-4)) 135 12 (a : Int)) J cc ss) _
    refine ev_n (fr' := (37, [some (vr 135), some (vi (s : Int)), none, none, none], [vl (s : Int), vi 461, vr 135])) (S' := MS (up2 (up2 I 135 11 (-4)) 135 12 (a : Int)) J cc ss) 4 rfl ?_
    refine ev_cv rfl rfl rfl ⟨Nat.le_of_ble_eq_true rfl, Nat.le_of_ble_eq_true rfl⟩ (sp_newNameE X _ _ _ _ 461 s (by omega) hwE) ?_
    show Ev X k_X9_readsPart (40, [some (vr 135), some (vi (s : Int)), none, none, none], [vl 0]) (MS (up2 (up2 I 135 11 (-4)) 135 12 (a : Int)) J cc ss) _
    refine ev_n (fr' := (48, [some (vr 135), some (vi (s : Int)), some (vl 0), none, none], [])) (S' := MS (up2 (up2 I 135 11 (-4)) 135 12 (a : Int)) J cc ss) 4 rfl ?_
    refine ev_r rfl rfl rfl ?_
    have hX : rPt tx n d s a = .inr (-4, a) := by unfold rPt; rw [if_pos (by omega)]
    rw [hX]
    exact ⟨_, _, rfl, rfl, hO.e, EE.mk (by decide)⟩
theorem lp_rIE (X : AX) (I J : Nat → Nat → Int) (cc ss : Nat) (s : Nat) (x : Int) (hwE : I 135 11 ≠ 0) : Ev X k_X9_readsIcon (75, [some (vr 135), some (vi (s : Int)), some (vl x), none, some (vi (19 * (s : Int) + 309))], []) (MS I J cc ss) (fun o T => o = .inl none ∧ T = MS I J cc ss) := by
  refine ev_n (fr' := (78, [some (vr 135), some (vi (s : Int)), some (vl x), none, some (vi (19 * (s : Int) + 309))], [vi 44, vr 135])) (S' := MS I J cc ss) 2 rfl ?_
  refine ev_cv rfl rfl rfl ⟨Nat.le_of_ble_eq_true rfl, Nat.le_of_ble_eq_true rfl⟩ (sp_isSignE X _ _ _ _ 44 hwE) ?_
  show Ev X k_X9_readsIcon (81, [some (vr 135), some (vi (s : Int)), some (vl x), none, some (vi (19 * (s : Int) + 309))], [vi 0]) (MS I J cc ss) _
  refine ev_n (fr' := (129, [some (vr 135), some (vi (s : Int)), some (vl x), none, some (vi (19 * (s : Int) + 309))], [vi 59, vr 135, vr 135])) (S' := MS I J cc ss) 4 rfl ?_
  refine ev_cv rfl rfl rfl ⟨Nat.le_of_ble_eq_true rfl, Nat.le_of_ble_eq_true rfl⟩ (sp_isSignE X _ _ _ _ 59 hwE) ?_
  show Ev X k_X9_readsIcon (132, [some (vr 135), some (vi (s : Int)), some (vl x), none, some (vi (19 * (s : Int) + 309))], [vi 0, vr 135]) (MS I J cc ss) _
  refine ev_cv rfl rfl rfl ⟨Nat.le_of_ble_eq_true rfl, Nat.le_of_ble_eq_true rfl⟩ (sp_mustE0 X _ _ _ _ hwE) ?_
  show Ev X k_X9_readsIcon (135, [some (vr 135), some (vi (s : Int)), some (vl x), none, some (vi (19 * (s : Int) + 309))], []) (MS I J cc ss) _
  refine ev_n (fr' := (139, [some (vr 135), some (vi (s : Int)), some (vl x), none, some (vi (19 * (s : Int) + 309))], [vi (I 135 11)])) (S' := MS I J cc ss) 2 rfl ?_
  refine ev_if (c := .eq) (off := 4) rfl (by decide) (fun (g1 : (I 135 11) = 0) => False.elim (hwE g1)) (fun (g1 : ¬ ((I 135 11) = 0)) => ?_)
  show Ev X k_X9_readsIcon (142, [some (vr 135), some (vi (s : Int)), some (vl x), none, some (vi (19 * (s : Int) + 309))], []) (MS I J cc ss) _
  refine ev_r rfl rfl rfl ?_
  exact ⟨rfl, rfl⟩
theorem lp_rII (X : AX) (I J : Nat → Nat → Int) (cc ss : Nat) (I0 J0 : F2) {tx : F1} {n : Nat} (hR : RB I tx n) (s : Nat) (x : Int) (c m : Nat) (hmc : m + c = 6) (hs8 : s < 8) {r : F1} {D : F1} (hwpD : 0 ≤ D 11 ∧ D 11 ≤ 8) (hDr : ∀ k, k = 11 ∨ (461 ≤ k ∧ k < 469) → r k = D k) (e : Nat) (hK : TK I J tx n (spF tx n e)) (hw0 : I 135 11 = 0) (hen : e ≤ n) (hd : J 137 = r) (hc : r (19 * s + 309) = (c : Int)) (hrc : r 308 = (s : Int)) (hz : ∀ k, 19 * s + 3 * c + 310 ≤ k → k < 461 → r k = 0) (hO : onlyF I0 I J0 J) : Ev X k_X9_readsIcon (75, [some (vr 135), some (vi (s : Int)), some (vl x), none, some (vi (19 * (s : Int) + 309))], []) (MS I J cc ss) (PV cc ss none (fun I' J' => RS I0 I' J0 J' tx n (finP tx n (nmX 469 308 s x) (tlF (oneI false D tx n) (ptI s) tx n m c r e)))) := by
  have hD8 : D 11 ≤ 8 := hwpD.2
  have hN : r 11 = ((D 11).toNat : Int) := (hDr 11 (Or.inl rfl)).trans (by omega)
  have hN8 : (D 11).toNat ≤ 8 := by omega
  refine ev_n (fr' := (78, [some (vr 135), some (vi (s : Int)), some (vl x), none, some (vi (19 * (s : Int) + 309))], [vi 44, vr 135])) (S' := MS I J cc ss) 2 rfl ?_
  refine ev_cv rfl rfl rfl ⟨Nat.le_of_ble_eq_true rfl, Nat.le_of_ble_eq_true rfl⟩ (sp_isSign X _ _ _ _ hR (spF tx n e) hK hw0 44 (by decide) (by decide) (by decide)) ?_
  show Ev X k_X9_readsIcon (81, [some (vr 135), some (vi (s : Int)), some (vl x), none, some (vi (19 * (s : Int) + 309))], [vi (if atF tx n (spF tx n e) = 44 then 1 else 0)]) (MS I J cc ss) _
  refine ev_beq _ rfl (by decide) (fun (g1 : ¬ (atF tx n (spF tx n e) = 44)) => ?_) (fun (g1 : atF tx n (spF tx n e) = 44) => ?_)
  · show Ev X k_X9_readsIcon (125, [some (vr 135), some (vi (s : Int)), some (vl x), none, some (vi (19 * (s : Int) + 309))], []) (MS I J cc ss) _
    refine ev_n (fr' := (129, [some (vr 135), some (vi (s : Int)), some (vl x), none, some (vi (19 * (s : Int) + 309))], [vi 59, vr 135, vr 135])) (S' := MS I J cc ss) 3 rfl ?_
    refine ev_cv rfl rfl rfl ⟨Nat.le_of_ble_eq_true rfl, Nat.le_of_ble_eq_true rfl⟩ (sp_isSign X _ _ _ _ hR (spF tx n e) hK hw0 59 (by decide) (by decide) (by decide)) ?_
    show Ev X k_X9_readsIcon (132, [some (vr 135), some (vi (s : Int)), some (vl x), none, some (vi (19 * (s : Int) + 309))], [vi (if atF tx n (spF tx n e) = 59 then 1 else 0), vr 135]) (MS I J cc ss) _
    refine ev_sp _ (fun (g2 : atF tx n (spF tx n e) = 59) => ?_) (fun (g2 : ¬ (atF tx n (spF tx n e) = 59)) => ?_)
    · show Ev X k_X9_readsIcon (132, [some (vr 135), some (vi (s : Int)), some (vl x), none, some (vi (19 * (s : Int) + 309))], [vi 1, vr 135]) (MS I J cc ss) _
      refine ev_cp rfl rfl rfl ⟨Nat.le_of_ble_eq_true rfl, Nat.le_of_ble_eq_true rfl⟩ (sp_mustT X _ _ _ _ hR (spF tx n e) hK hw0) (fun I1 J2 q3 => ?_)
      obtain ⟨hK, hO9, hw0⟩ := q3
      show Ev X k_X9_readsIcon (135, [some (vr 135), some (vi (s : Int)), some (vl x), none, some (vi (19 * (s : Int) + 309))], []) (MS I1 J2 cc ss) _
      have h59 := g2
      have hsg := (sg_at (c := 59) (by decide) (by decide) (by decide)).mp h59
      have hlt := (kd_2.mp hsg.1).1
      rw [en_2 (kd_2.mp hsg.1)] at hK
      have hO := hO.trans hO9.f
      have hd := (hO9.2.2 137 (by decide)).trans hd
      have hR := hR.l hO9
      refine ev_n (fr' := (139, [some (vr 135), some (vi (s : Int)), some (vl x), none, some (vi (19 * (s : Int) + 309))], [vi (I1 135 11)])) (S' := MS I1 J2 cc ss) 2 rfl ?_
      refine ev_eqi (hw0) ?_
      show Ev X k_X9_readsIcon (139, [some (vr 135), some (vi (s : Int)), some (vl x), none, some (vi (19 * (s : Int) + 309))], [vi 0]) (MS I1 J2 cc ss) _
      refine ev_n (fr' := (151, [some (vr 135), some (vi (s : Int)), some (vl x), none, some (vi (19 * (s : Int) + 309))], [vi (s : Int), vi 469, vr 137])) (S' := MS I1 J2 cc ss) 5 rfl ?_
      refine ev_add (z := (s : Int) + 469) rfl (by omega) (by omega) (by omega) ?_
      show Ev X k_X9_readsIcon (152, [some (vr 135), some (vi (s : Int)), some (vl x), none, some (vi (19 * (s : Int) + 309))], [vi ((s : Int) + 469), vr 137]) (MS I1 J2 cc ss) _
      refine ev_n (fr' := (153, [some (vr 135), some (vi (s : Int)), some (vl x), none, some (vi (19 * (s : Int) + 309))], [vl x, vi ((s : Int) + 469), vr 137])) (S' := MS I1 J2 cc ss) 1 rfl ?_
      refine ev_lasN (j := s + 469) rfl rfl (by omega) (by omega) ?_
      show Ev X k_X9_readsIcon (154, [some (vr 135), some (vi (s : Int)), some (vl x), none, some (vi (19 * (s : Int) + 309))], []) (MS I1 (up2 J2 137 (s + 469) x) cc ss) _
      have hd : (up2 J2 137 (s + 469) x) 137 = _ := up2_u1 hd
      have hO := hO.j (k := s + 469) (v := x)
      have hK := hK.j (k := s + 469) (v := x)
      refine ev_n (fr' := (162, [some (vr 135), some (vi (s : Int)), some (vl x), none, some (vi (19 * (s : Int) + 309))], [vi 308, vr 137, vi 308, vr 137])) (S' := MS I1 (up2 J2 137 (s + 469) x) cc ss) 4 rfl ?_
      refine ev_laN (j := 308) (z := (s : Int)) rfl rfl (by omega) (by omega) ((congrFun hd _).trans ((upd1_ne _ _ _ (by omega)).trans hrc)) ?_
      show Ev X k_X9_readsIcon (163, [some (vr 135), some (vi (s : Int)), some (vl x), none, some (vi (19 * (s : Int) + 309))], [vl (s : Int), vi 308, vr 137]) (MS I1 (up2 J2 137 (s + 469) x) cc ss) _
      refine ev_n (fr' := (164, [some (vr 135), some (vi (s : Int)), some (vl x), none, some (vi (19 * (s : Int) + 309))], [vl 1, vl (s : Int), vi 308, vr 137])) (S' := MS I1 (up2 J2 137 (s + 469) x) cc ss) 1 rfl ?_
      refine ev_ladd (z := (s : Int) + 1) rfl (by omega) (by omega) (by omega) ?_
      show Ev X k_X9_readsIcon (165, [some (vr 135), some (vi (s : Int)), some (vl x), none, some (vi (19 * (s : Int) + 309))], [vl ((s : Int) + 1), vi 308, vr 137]) (MS I1 (up2 J2 137 (s + 469) x) cc ss) _
      refine ev_lasN (j := 308) rfl rfl (by omega) (by omega) ?_
      show Ev X k_X9_readsIcon (166, [some (vr 135), some (vi (s : Int)), some (vl x), none, some (vi (19 * (s : Int) + 309))], []) (MS I1 (up2 (up2 J2 137 (s + 469) x) 137 308 ((s : Int) + 1)) cc ss) _
      have hd : (up2 (up2 J2 137 (s + 469) x) 137 308 ((s : Int) + 1)) 137 = _ := up2_u1 hd
      have hO := hO.j (k := 308) (v := ((s : Int) + 1))
      have hK := hK.j (k := 308) (v := ((s : Int) + 1))
      refine ev_r rfl rfl rfl ?_
      have hn44 : ¬ atF tx n (spF tx n e) = 44 := by assumption
      rw [tl_no hn44]
      rw [fin_1 (by rw [spF_idem]; assumption), spF_idem]
      exact ⟨_, _, rfl, rfl, hO, hK, hw0, hd, by omega⟩
    · show Ev X k_X9_readsIcon (132, [some (vr 135), some (vi (s : Int)), some (vl x), none, some (vi (19 * (s : Int) + 309))], [vi 0, vr 135]) (MS I J cc ss) _
      refine ev_cv rfl rfl rfl ⟨Nat.le_of_ble_eq_true rfl, Nat.le_of_ble_eq_true rfl⟩ (sp_mustF X _ _ _ _ (spF tx n e) hw0 hK.2.2.1) ?_
      show Ev X k_X9_readsIcon (135, [some (vr 135), some (vi (s : Int)), some (vl x), none, some (vi (19 * (s : Int) + 309))], []) (MS (up2 (up2 I 135 11 (-2)) 135 12 (spF tx n e : Int)) J cc ss) _
      have hwE : (up2 (up2 I 135 11 (-2)) 135 12 (spF tx n e : Int)) 135 11 ≠ 0 := EE.ne (EE.mk (by decide))
      refine ev_n (fr' := (142, [some (vr 135), some (vi (s : Int)), some (vl x), none, some (vi (19 * (s : Int) + 309))], [])) (S' := MS (up2 (up2 I 135 11 (-2)) 135 12 (spF tx n e : Int)) J cc ss) 3 rfl ?_
      refine ev_r rfl rfl rfl ?_
      have hn44 : ¬ atF tx n (spF tx n e) = 44 := by assumption
      rw [tl_no hn44]
      rw [fin_0 (by rw [spF_idem]; assumption), spF_idem]
      exact ⟨_, _, rfl, rfl, hO.e, EE.mk (by decide)⟩
  · show Ev X k_X9_readsIcon (84, [some (vr 135), some (vi (s : Int)), some (vl x), none, some (vi (19 * (s : Int) + 309))], []) (MS I J cc ss) _
    refine ev_n (fr' := (90, [some (vr 135), some (vi (s : Int)), some (vl x), none, some (vi (19 * (s : Int) + 309))], [vi (19 * (s : Int) + 309), vr 137])) (S' := MS I J cc ss) 3 rfl ?_
    refine ev_laN (j := 19 * s + 309) (z := (c : Int)) rfl rfl (by omega) (by omega) ((congrFun hd _).trans hc) ?_
    show Ev X k_X9_readsIcon (91, [some (vr 135), some (vi (s : Int)), some (vl x), none, some (vi (19 * (s : Int) + 309))], [vl (c : Int)]) (MS I J cc ss) _
    refine ev_n (fr' := (94, [some (vr 135), some (vi (s : Int)), some (vl x), none, some (vi (19 * (s : Int) + 309))], [vl 6, vl (c : Int)])) (S' := MS I J cc ss) 1 rfl ?_
    refine ev_lc (c := .ne) (off := 9) rfl rfl (by decide) (fun (g3 : (c : Int) ≠ 6) => ?_) (fun (g3 : ¬ ((c : Int) ≠ 6)) => ?_)
    · show Ev X k_X9_readsIcon (104, [some (vr 135), some (vi (s : Int)), some (vl x), none, some (vi (19 * (s : Int) + 309))], []) (MS I J cc ss) _
      refine ev_n (fr' := (106, [some (vr 135), some (vi (s : Int)), some (vl x), none, some (vi (19 * (s : Int) + 309))], [vi 1, vr 135])) (S' := MS I J cc ss) 2 rfl ?_
      refine ev_cp rfl rfl rfl ⟨Nat.le_of_ble_eq_true rfl, Nat.le_of_ble_eq_true rfl⟩ (sp_mustT X _ _ _ _ hR (spF tx n e) hK hw0) (fun I4 J5 q6 => ?_)
      obtain ⟨hK, hO9, hw0⟩ := q6
      show Ev X k_X9_readsIcon (109, [some (vr 135), some (vi (s : Int)), some (vl x), none, some (vi (19 * (s : Int) + 309))], []) (MS I4 J5 cc ss) _
      have h44 : atF tx n (spF tx n e) = 44 := by assumption
      have hsg := (sg_at (c := 44) (by decide) (by decide) (by decide)).mp h44
      have hlt := (kd_2.mp hsg.1).1
      rw [en_2 (kd_2.mp hsg.1)] at hK
      have hO := hO.trans hO9.f
      have hd := (hO9.2.2 137 (by decide)).trans hd
      have hR := hR.l hO9
      refine ev_n (fr' := (113, [some (vr 135), some (vi (s : Int)), some (vl x), none, some (vi (19 * (s : Int) + 309))], [vi (I4 135 11)])) (S' := MS I4 J5 cc ss) 2 rfl ?_
      refine ev_eqi (hw0) ?_
      show Ev X k_X9_readsIcon (113, [some (vr 135), some (vi (s : Int)), some (vl x), none, some (vi (19 * (s : Int) + 309))], [vi 0]) (MS I4 J5 cc ss) _
      refine ev_n (fr' := (119, [some (vr 135), some (vi (s : Int)), some (vl x), none, some (vi (19 * (s : Int) + 309))], [vi (19 * (s : Int) + 309), vr 135])) (S' := MS I4 J5 cc ss) 3 rfl ?_
      refine ev_cp rfl rfl rfl ⟨Nat.le_of_ble_eq_true rfl, Nat.le_of_ble_eq_true rfl⟩ (sp_readsUse X _ _ _ _ hR (spF tx n (spF tx n e + 1)) hK hw0 s c (by omega) (by omega) hd hN hN8 hc hz) (fun I7 J8 q9 => ?_)
      obtain ⟨hO9, hz9⟩ := q9
      rw [pUs_congr hD8 hDr] at hz9
      rcases hr1 : pUs false tx n D (spF tx n (spF tx n e + 1)) with ⟨e1, v1⟩ | ⟨c1, s1⟩ <;> rw [hr1] at hz9
      · obtain ⟨hK, hw0, hd, hen1⟩ := hz9
        have hR : RB I7 tx n := ⟨hR.1, (hO9.2.1 7 (by omega)).trans hR.2.1, fun k hk => by rw [hO9.1 139 (by decide)]; exact hR.2.2 k hk⟩
        have hO := hO.trans hO9
        show Ev X k_X9_readsIcon (122, [some (vr 135), some (vi (s : Int)), some (vl x), none, some (vi (19 * (s : Int) + 309))], []) (MS I7 J8 cc ss) _
        refine ev_n (fr' := (75, [some (vr 135), some (vi (s : Int)), some (vl x), none, some (vi (19 * (s : Int) + 309))], [])) (S' := MS I7 J8 cc ss) 1 rfl ?_
        obtain ⟨m2, rfl⟩ : ∃ m2, m = m2 + 1 := ⟨m - 1, by omega⟩
        rw [tl_s h44, pIt_tl (one := (oneI false D tx n)) hr1]
        exact lp_rII X _ _ cc ss I0 J0 hR s x (c + 1) m2 (by omega) (by omega) (D := D) hwpD (fun k hk => (puU_out (by omega) (by omega)).trans (hDr k hk))  e1 hK hw0 hen1 hd (puU_cnt.trans (by omega)) ((puU_out (by omega) (by omega)).trans hrc) (fun k h1 h2 => (puU_out (by omega) (by omega)).trans (hz k (by omega) h2)) hO
      · have hE := hz9
        have hwE := hE.ne
        have hO := hO.trans hO9
        show Ev X k_X9_readsIcon (122, [some (vr 135), some (vi (s : Int)), some (vl x), none, some (vi (19 * (s : Int) + 309))], []) (MS I7 J8 cc ss) _
        refine ev_n (fr' := (75, [some (vr 135), some (vi (s : Int)), some (vl x), none, some (vi (19 * (s : Int) + 309))], [])) (S' := MS I7 J8 cc ss) 1 rfl ?_
        obtain ⟨m2, rfl⟩ : ∃ m2, m = m2 + 1 := ⟨m - 1, by omega⟩
        rw [tl_s h44, pIt_er (one := (oneI false D tx n)) hr1]
        refine (lp_rIE X _ _ cc ss s x hwE).mono ?_
        rintro o T ⟨rfl, rfl⟩
        exact ⟨_, _, rfl, rfl, hO, hE⟩
    · show Ev X k_X9_readsIcon (98, [some (vr 135), some (vi (s : Int)), some (vl x), none, some (vi (19 * (s : Int) + 309))], []) (MS I J cc ss) _
      refine ev_n (fr' := (101, [some (vr 135), some (vi (s : Int)), some (vl x), none, some (vi (19 * (s : Int) + 309))], [vi (-4), vr 135])) (S' := MS I J cc ss) 2 rfl ?_
      refine ev_cv rfl rfl rfl ⟨Nat.le_of_ble_eq_true rfl, Nat.le_of_ble_eq_true rfl⟩ (sp_fails X _ _ _ _ (-4) (spF tx n e) hw0 hK.2.2.1) ?_
      show Ev X k_X9_readsIcon (104, [some (vr 135), some (vi (s : Int)), some (vl x), none, some (vi (19 * (s : Int) + 309))], []) (MS (up2 (up2 I 135 11 (-4)) 135 12 (spF tx n e : Int)) J cc ss) _
      have hwE : (up2 (up2 I 135 11 (-4)) 135 12 (spF tx n e : Int)) 135 11 ≠ 0 := EE.ne (EE.mk (by decide))
      refine ev_n (fr' := (106, [some (vr 135), some (vi (s : Int)), some (vl x), none, some (vi (19 * (s : Int) + 309))], [vi 1, vr 135])) (S' := MS (up2 (up2 I 135 11 (-4)) 135 12 (spF tx n e : Int)) J cc ss) 2 rfl ?_
      refine ev_cv rfl rfl rfl ⟨Nat.le_of_ble_eq_true rfl, Nat.le_of_ble_eq_true rfl⟩ (sp_mustE1 X _ _ _ _ hwE) ?_
      show Ev X k_X9_readsIcon (109, [some (vr 135), some (vi (s : Int)), some (vl x), none, some (vi (19 * (s : Int) + 309))], []) (MS (up2 (up2 I 135 11 (-4)) 135 12 (spF tx n e : Int)) J cc ss) _
      refine ev_n (fr' := (75, [some (vr 135), some (vi (s : Int)), some (vl x), none, some (vi (19 * (s : Int) + 309))], [])) (S' := MS (up2 (up2 I 135 11 (-4)) 135 12 (spF tx n e : Int)) J cc ss) 3 rfl ?_
      have e0 : m = 0 := by omega
      subst e0
      rw [tl_0 (by assumption)]
      refine (lp_rIE X _ _ cc ss s x hwE).mono ?_
      rintro o T ⟨rfl, rfl⟩
      exact ⟨_, _, rfl, rfl, hO.e, EE.mk (by decide)⟩
termination_by m
decreasing_by all_goals omega
theorem sp_readsIcon (X : AX) (I J : Nat → Nat → Int) (cc ss : Nat) {tx : F1} {n : Nat} (hR : RB I tx n) (a : Nat) (hK : TK I J tx n a) (hw0 : I 135 11 = 0) (hzw : wdF tx n a = 298478) {d : F1} (hd : J 137 = d) (s : Nat) (hs : d 308 = (s : Int)) (hs9 : s ≤ 8) (hd11 : 0 ≤ d 11 ∧ d 11 ≤ 8) (hz : ∀ k, 19 * s + 309 ≤ k → k < 461 → d k = 0) : Ev X k_X9_readsIcon (0, [some (vr 135), none, none, none, none], []) (MS I J cc ss) (PV cc ss none (fun I' J' => RS I I' J J' tx n (rIc tx n d s a))) := by
  have ha := hK.1
  have hO := onlyF.refl I J
  have hnz : wdF tx n a ≠ 0 := by omega
  have hD8 : d 11 ≤ 8 := hd11.2
  have hDr : ∀ k, k = 11 ∨ (461 ≤ k ∧ k < 469) → d k = d k := fun _ _ => rfl
  have hN : d 11 = ((d 11).toNat : Int) := by omega
  have hN8 : (d 11).toNat ≤ 8 := by omega
  refine ev_n (fr' := (7, [some (vr 135), none, none, none, none], [vi 308, vr 137])) (S' := MS I J cc ss) 3 rfl ?_
  refine ev_laN (j := 308) (z := (s : Int)) rfl rfl (by omega) (by omega) ((congrFun hd _).trans hs) ?_
  show Ev X k_X9_readsIcon (8, [some (vr 135), none, none, none, none], [vl (s : Int)]) (MS I J cc ss) _
  refine ev_l2i rfl (by omega) (by omega) ?_
  show Ev X k_X9_readsIcon (9, [some (vr 135), none, none, none, none], [vi (s : Int)]) (MS I J cc ss) _
  refine ev_n (fr' := (13, [some (vr 135), some (vi (s : Int)), none, none, none], [vi 8, vi (s : Int)])) (S' := MS I J cc ss) 3 rfl ?_
  refine ev_ic (c := .ne) (off := 9) rfl (by decide) (fun (g1 : (s : Int) ≠ 8) => ?_) (fun (g1 : ¬ ((s : Int) ≠ 8)) => ?_)
  · show Ev X k_X9_readsIcon (22, [some (vr 135), some (vi (s : Int)), none, none, none], []) (MS I J cc ss) _
    refine ev_n (fr' := (26, [some (vr 135), some (vi (s : Int)), none, none, none], [vr 1000106, vr 135, vr 135])) (S' := MS I J cc ss) 3 rfl ?_
    refine ev_cv rfl rfl rfl ⟨Nat.le_of_ble_eq_true rfl, Nat.le_of_ble_eq_true rfl⟩ (sp_isWord_6 X _ _ _ _ hR a hK hw0) ?_
    show Ev X k_X9_readsIcon (29, [some (vr 135), some (vi (s : Int)), none, none, none], [vi (if wdF tx n a = 298478 then 1 else 0), vr 135]) (MS I J cc ss) _
    refine ev_s1 _ (hzw) ?_
    show Ev X k_X9_readsIcon (29, [some (vr 135), some (vi (s : Int)), none, none, none], [vi 1, vr 135]) (MS I J cc ss) _
    refine ev_cp rfl rfl rfl ⟨Nat.le_of_ble_eq_true rfl, Nat.le_of_ble_eq_true rfl⟩ (sp_mustT X _ _ _ _ hR a hK hw0) (fun I1 J2 q3 => ?_)
    obtain ⟨hK, hO9, hw0⟩ := q3
    show Ev X k_X9_readsIcon (32, [some (vr 135), some (vi (s : Int)), none, none, none], []) (MS I1 J2 cc ss) _
    rw [en_0 (wd_kd hnz).1] at hK
    have hO := hO.trans hO9.f
    have hd := (hO9.2.2 137 (by decide)).trans hd
    have hR := hR.l hO9
    refine ev_n (fr' := (38, [some (vr 135), some (vi (s : Int)), none, none, none], [vl (s : Int), vi 469, vr 135])) (S' := MS I1 J2 cc ss) 4 rfl ?_
    refine ev_cp rfl rfl rfl ⟨Nat.le_of_ble_eq_true rfl, Nat.le_of_ble_eq_true rfl⟩ (sp_newName X _ _ _ _ hR (spF tx n (leF tx n a)) hK hw0 469 s (by omega) (by omega) hd) (fun I4 J5 q6 => ?_)
    obtain ⟨hO9, hz9⟩ := q6
    rcases hrn : nnR tx n (fun r => d (r + 469)) s (spF tx n (leF tx n a)) with e0 | ⟨c0, s0⟩ <;> rw [hrn] at hz9
    · obtain ⟨hK, hw0, hen0⟩ := hz9
      have hR := hR.l hO9
      have hO := hO.trans hO9.f
      have hd := (hO9.2.2 137 (by decide)).trans hd
      have hX : rIc tx n d s a = finP tx n (nmX 469 308 s (wdF tx n (spF tx n (leF tx n a)))) (if atF tx n (spF tx n e0) = 59 then .inl (spF tx n e0, d) else pIt (oneI false d tx n) (ptI s) tx n 5 0 d e0) := by unfold rIc; rw [if_neg (by omega), hrn]
      show Ev X k_X9_readsIcon (41, [some (vr 135), some (vi (s : Int)), none, none, none], [vl (wdF tx n (spF tx n (leF tx n a)))]) (MS I4 J5 cc ss) _
      refine ev_n (fr' := (46, [some (vr 135), some (vi (s : Int)), some (vl (wdF tx n (spF tx n (leF tx n a)))), none, none], [vi (I4 135 11)])) (S' := MS I4 J5 cc ss) 3 rfl ?_
      refine ev_eqi (hw0) ?_
      show Ev X k_X9_readsIcon (46, [some (vr 135), some (vi (s : Int)), some (vl (wdF tx n (spF tx n (leF tx n a)))), none, none], [vi 0]) (MS I4 J5 cc ss) _
      refine ev_n (fr' := (56, [some (vr 135), some (vi (s : Int)), some (vl (wdF tx n (spF tx n (leF tx n a)))), none, none], [vi (s : Int), vi 19, vi 309])) (S' := MS I4 J5 cc ss) 4 rfl ?_
      refine ev_mul (z := 19 * (s : Int)) rfl (by omega) (by omega) (by omega) ?_
      show Ev X k_X9_readsIcon (57, [some (vr 135), some (vi (s : Int)), some (vl (wdF tx n (spF tx n (leF tx n a)))), none, none], [vi (19 * (s : Int)), vi 309]) (MS I4 J5 cc ss) _
      refine ev_add (z := 19 * (s : Int) + 309) rfl (by omega) (by omega) (by omega) ?_
      show Ev X k_X9_readsIcon (58, [some (vr 135), some (vi (s : Int)), some (vl (wdF tx n (spF tx n (leF tx n a)))), none, none], [vi (19 * (s : Int) + 309)]) (MS I4 J5 cc ss) _
      refine ev_n (fr' := (63, [some (vr 135), some (vi (s : Int)), some (vl (wdF tx n (spF tx n (leF tx n a)))), none, some (vi (19 * (s : Int) + 309))], [vi 59, vr 135])) (S' := MS I4 J5 cc ss) 3 rfl ?_
      refine ev_cv rfl rfl rfl ⟨Nat.le_of_ble_eq_true rfl, Nat.le_of_ble_eq_true rfl⟩ (sp_isSign X _ _ _ _ hR (spF tx n e0) hK hw0 59 (by decide) (by decide) (by decide)) ?_
      show Ev X k_X9_readsIcon (66, [some (vr 135), some (vi (s : Int)), some (vl (wdF tx n (spF tx n (leF tx n a)))), none, some (vi (19 * (s : Int) + 309))], [vi (if atF tx n (spF tx n e0) = 59 then 1 else 0)]) (MS I4 J5 cc ss) _
      refine ev_bne _ rfl (by decide) (fun (g2 : atF tx n (spF tx n e0) = 59) => ?_) (fun (g2 : ¬ (atF tx n (spF tx n e0) = 59)) => ?_)
      · show Ev X k_X9_readsIcon (75, [some (vr 135), some (vi (s : Int)), some (vl (wdF tx n (spF tx n (leF tx n a)))), none, some (vi (19 * (s : Int) + 309))], []) (MS I4 J5 cc ss) _
        rw [hX, if_pos (by assumption)]
        have hT0 : (.inl (spF tx n e0, d) : (Nat × F1) ⊕ (Int × Nat)) = tlF (oneI false d tx n) (ptI s) tx n 6 0 d e0 := (tl_no (by omega)).symm
        rw [hT0]
        exact lp_rII X _ _ cc ss I J hR s (wdF tx n (spF tx n (leF tx n a))) 0 6 rfl (by omega) (D := d) hd11 (fun _ _ => rfl) e0 hK hw0 hen0 hd (by rw [hz _ (by omega) (by omega)]; rfl) hs (fun k h1 h2 => hz k (by omega) h2) hO
      · show Ev X k_X9_readsIcon (69, [some (vr 135), some (vi (s : Int)), some (vl (wdF tx n (spF tx n (leF tx n a)))), none, some (vi (19 * (s : Int) + 309))], []) (MS I4 J5 cc ss) _
        refine ev_n (fr' := (72, [some (vr 135), some (vi (s : Int)), some (vl (wdF tx n (spF tx n (leF tx n a)))), none, some (vi (19 * (s : Int) + 309))], [vi (19 * (s : Int) + 309), vr 135])) (S' := MS I4 J5 cc ss) 2 rfl ?_
        refine ev_cp rfl rfl rfl ⟨Nat.le_of_ble_eq_true rfl, Nat.le_of_ble_eq_true rfl⟩ (sp_readsUse X _ _ _ _ hR (spF tx n e0) hK hw0 s 0 (by omega) (by omega) hd hN hN8 (hz _ (by omega) (by omega)) (fun k h1 h2 => hz k (by omega) h2)) (fun I7 J8 q9 => ?_)
        obtain ⟨hO9, hz9⟩ := q9
        rw [pUs_congr hD8 hDr] at hz9
        rcases hr1 : pUs false tx n d (spF tx n e0) with ⟨e1, v1⟩ | ⟨c1, s1⟩ <;> rw [hr1] at hz9
        · obtain ⟨hK, hw0, hd, hen1⟩ := hz9
          have hR : RB I7 tx n := ⟨hR.1, (hO9.2.1 7 (by omega)).trans hR.2.1, fun k hk => by rw [hO9.1 139 (by decide)]; exact hR.2.2 k hk⟩
          have hO := hO.trans hO9
          show Ev X k_X9_readsIcon (75, [some (vr 135), some (vi (s : Int)), some (vl (wdF tx n (spF tx n (leF tx n a)))), none, some (vi (19 * (s : Int) + 309))], []) (MS I7 J8 cc ss) _
          rw [hX, if_neg (by assumption), pIt_tl (one := (oneI false d tx n)) hr1]
          exact lp_rII X _ _ cc ss I J hR s (wdF tx n (spF tx n (leF tx n a))) (0 + 1) 5 rfl (by omega) (D := d) hd11 (fun k hk => puU_out (by omega) (by omega)) e1 hK hw0 hen1 hd (puU_cnt.trans rfl) ((puU_out (by omega) (by omega)).trans hs) (fun k h1 h2 => (puU_out (by omega) (by omega)).trans (hz k (by omega) h2)) hO
        · have hE := hz9
          have hwE := hE.ne
          have hO := hO.trans hO9
          show Ev X k_X9_readsIcon (75, [some (vr 135), some (vi (s : Int)), some (vl (wdF tx n (spF tx n (leF tx n a)))), none, some (vi (19 * (s : Int) + 309))], []) (MS I7 J8 cc ss) _
          rw [hX, if_neg (by assumption), pIt_er (one := (oneI false d tx n)) hr1]
          refine (lp_rIE X _ _ cc ss s (wdF tx n (spF tx n (leF tx n a))) hwE).mono ?_
          rintro o T ⟨rfl, rfl⟩
          exact ⟨_, _, rfl, rfl, hO, hE⟩
    · have hE := hz9
      have hwE := hE.ne
      have hO := hO.trans hO9.f
      have hX : rIc tx n d s a = .inr (c0, s0) := by unfold rIc; rw [if_neg (by omega), hrn]
      show Ev X k_X9_readsIcon (41, [some (vr 135), some (vi (s : Int)), none, none, none], [vl (wdF tx n (spF tx n (leF tx n a)))]) (MS I4 J5 cc ss) _
      refine ev_n (fr' := (46, [some (vr 135), some (vi (s : Int)), some (vl (wdF tx n (spF tx n (leF tx n a)))), none, none], [vi (I4 135 11)])) (S' := MS I4 J5 cc ss) 3 rfl ?_
      refine ev_if (c := .eq) (off := 4) rfl (by decide) (fun (g2 : (I4 135 11) = 0) => False.elim (hwE g2)) (fun (g2 : ¬ ((I4 135 11) = 0)) => ?_)
      show Ev X k_X9_readsIcon (49, [some (vr 135), some (vi (s : Int)), some (vl (wdF tx n (spF tx n (leF tx n a)))), none, none], []) (MS I4 J5 cc ss) _
      refine ev_r rfl rfl rfl ?_
      rw [hX]
      exact ⟨_, _, rfl, rfl, hO, hE⟩
  · show Ev X k_X9_readsIcon (16, [some (vr 135), some (vi (s : Int)), none, none, none], []) (MS I J cc ss) _
    refine ev_n (fr' := (19, [some (vr 135), some (vi (s : Int)), none, none, none], [vi (-4), vr 135])) (S' := MS I J cc ss) 2 rfl ?_
    refine ev_cv rfl rfl rfl ⟨Nat.le_of_ble_eq_true rfl, Nat.le_of_ble_eq_true rfl⟩ (sp_fails X _ _ _ _ (-4) a hw0 hK.2.2.1) ?_
    show Ev X k_X9_readsIcon (22, [some (vr 135), some (vi (s : Int)), none, none, none], []) (MS (up2 (up2 I 135 11 (-4)) 135 12 (a : Int)) J cc ss) _
    have hwE : (up2 (up2 I 135 11 (-4)) 135 12 (a : Int)) 135 11 ≠ 0 := EE.ne (EE.mk (by decide))
    refine ev_n (fr' := (26, [some (vr 135), some (vi (s : Int)), none, none, none], [vr 1000106, vr 135, vr 135])) (S' := MS (up2 (up2 I 135 11 (-4)) 135 12 (a : Int)) J cc ss) 3 rfl ?_
    refine ev_cv rfl rfl rfl ⟨Nat.le_of_ble_eq_true rfl, Nat.le_of_ble_eq_true rfl⟩ (sp_isWordE_6 X _ _ _ _ hwE) ?_
    show Ev X k_X9_readsIcon (29, [some (vr 135), some (vi (s : Int)), none, none, none], [vi 0, vr 135]) (MS (up2 (up2 I 135 11 (-4)) 135 12 (a : Int)) J cc ss) _
    refine ev_cv rfl rfl rfl ⟨Nat.le_of_ble_eq_true rfl, Nat.le_of_ble_eq_true rfl⟩ (sp_mustE0 X _ _ _ _ hwE) ?_
    show Ev X k_X9_readsIcon (32, [some (vr 135), some (vi (s : Int)), none, none, none], []) (MS (up2 (up2 I 135 11 (-4)) 135 12 (a : Int)) J cc ss) _
    refine ev_n (fr' := (38, [some (vr 135), some (vi (s : Int)), none, none, none], [vl (s : Int), vi 469, vr 135])) (S' := MS (up2 (up2 I 135 11 (-4)) 135 12 (a : Int)) J cc ss) 4 rfl ?_
    refine ev_cv rfl rfl rfl ⟨Nat.le_of_ble_eq_true rfl, Nat.le_of_ble_eq_true rfl⟩ (sp_newNameE X _ _ _ _ 469 s (by omega) hwE) ?_
    show Ev X k_X9_readsIcon (41, [some (vr 135), some (vi (s : Int)), none, none, none], [vl 0]) (MS (up2 (up2 I 135 11 (-4)) 135 12 (a : Int)) J cc ss) _
    refine ev_n (fr' := (49, [some (vr 135), some (vi (s : Int)), some (vl 0), none, none], [])) (S' := MS (up2 (up2 I 135 11 (-4)) 135 12 (a : Int)) J cc ss) 4 rfl ?_
    refine ev_r rfl rfl rfl ?_
    have hX : rIc tx n d s a = .inr (-4, a) := by unfold rIc; rw [if_pos (by omega)]
    rw [hX]
    exact ⟨_, _, rfl, rfl, hO.e, EE.mk (by decide)⟩
