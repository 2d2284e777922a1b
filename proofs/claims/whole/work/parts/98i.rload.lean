/-! THE REFERENCE loads, to its end (printed by gen/g98i.py) -/
theorem pSet_wf {tx : F1} {n : Nat} : ∀ (m : Nat) (d : F1) (p : Nat) (d' : F1), WF d → pSet true tx n m d p = .inl d' → WF d'
  | 0, d, p, d', hw, h => by cases h; exact hw
  | m + 1, d, p, d', hw, h => by
    by_cases h1 : n ≤ spF tx n p
    · rw [pSet_end h1] at h; cases h; exact hw
    · rcases hr : pStm true tx n d (spF tx n p) with ⟨e, d1⟩ | x
      · have hok := pStm_ok hw hr
        by_cases h5 : atF tx n (spF tx n e) = 59
        · rw [pSet_s h1 hr h5] at h; exact pSet_wf m d1 _ d' hok.2 h
        · rw [pSet_no h1 hr h5] at h; cases h
      · rw [pSet_er h1 hr] at h; cases h
def zeF1 (g : F1) : F1 := fun k => if k < 477 then 0 else g k
theorem zeF1_0 {g : F1} {k : Nat} (h : k < 477) : zeF1 g k = 0 := if_pos h
theorem zeF1_wf (g : F1) : WF (zeF1 g) := by
  have e0 : zeF1 g 0 = 0 := zeF1_0 (by decide)
  have e11 : zeF1 g 11 = 0 := zeF1_0 (by decide)
  have e308 : zeF1 g 308 = 0 := zeF1_0 (by decide)
  exact ⟨⟨by omega, by omega, fun k hk => absurd hk (by omega), fun k hk => absurd hk (by omega)⟩, ⟨by omega, by omega, fun p hp => absurd hp (by omega)⟩, ⟨by omega, by omega, fun p hp => absurd hp (by omega)⟩⟩
theorem zeF1_zd (g : F1) : ZD (zeF1 g) := ⟨fun k _ h => zeF1_0 (by omega), fun k _ h => zeF1_0 (by omega)⟩
def LdR (I I' J J' : F2) (hs : Nat → F1) (m : Nat) (g : F1) (r : F1 ⊕ (Int × Nat)) (z : Int) : Prop := (∀ a, a ≠ 135 → I' a = I a) ∧ (∀ f, (f < 3 ∨ f = 5 ∨ 13 < f) → I' 135 f = I 135 f) ∧ I' 135 4 = 0 ∧ I' 135 6 = 0 ∧ (∀ a, a ≠ 135 → a ≠ 136 → a ≠ 137 → a ≠ 138 → J' a = J a) ∧ match r with
  | .inl d' => z = d' 308 ∧ I' 135 13 = -1 ∧ I' 135 3 = (remM m : Int) ∧ MH J' (remH hs m g) (remM m) ∧ ∀ k, J' 136 k = if k < 477 then d' k else g k
  | .inr (c, s) => z = c ∧ I' 135 13 = (s : Int) ∧ I' 135 3 = I 135 3 ∧ J' 138 = J 138 ∧ J' 136 = J 136
theorem rb_load_x (X : AX) (I J : Nat → Nat → Int) (cc ss : Nat) (y : Int) {tx : F1} {fl : Nat} (hX : TXr I tx fl) (h : ¬ (0 ≤ y ∧ y ≤ 4 * (fl : Int))) : Ev X k_X9_load (0, [some (vr 135), some (vi y), none], []) (MS I J cc ss) (fun o T => o = .inl (some (vi 0)) ∧ T = MS (up2 I 135 4 1) J cc ss) := by
  have h225 := hX.2.1
  refine ev_n (fr' := (8, [some (vr 135), some (vi y), none], [vi (I 135 6), vl 0, vl y, vr 135])) (S' := MS I J cc ss) 6 rfl ?_
  refine ev_eqi (hX.1) ?_
  show Ev X k_X9_load (8, [some (vr 135), some (vi y), none], [vi (4 * (fl : Int)), vl 0, vl y, vr 135]) (MS I J cc ss) _
  refine ev_n (fr' := (9, [some (vr 135), some (vi y), none], [vl (4 * (fl : Int)), vl 0, vl y, vr 135])) (S' := MS I J cc ss) 1 rfl ?_
  refine ev_cv rfl rfl rfl ⟨Nat.le_of_ble_eq_true rfl, Nat.le_of_ble_eq_true rfl⟩ (sp_isIn X _ y 0 (4 * (fl : Int)) ) ?_
  show Ev X k_X9_load (12, [some (vr 135), some (vi y), none], [vi (if 0 ≤ y ∧ y ≤ 4 * (fl : Int) then 1 else 0), vr 135]) (MS I J cc ss) _
  refine ev_beq _ rfl (by decide) (fun (g1 : ¬ (0 ≤ y ∧ y ≤ 4 * (fl : Int))) => ?_) (fun (g1 : 0 ≤ y ∧ y ≤ 4 * (fl : Int)) => False.elim ((h) g1))
  show Ev X k_X9_load (19, [some (vr 135), some (vi y), none], [vr 135]) (MS I J cc ss) _
  refine ev_n (fr' := (20, [some (vr 135), some (vi y), none], [vi 1, vr 135])) (S' := MS I J cc ss) 1 rfl ?_
  refine ev_n (fr' := (23, [some (vr 135), some (vi y), none], [])) (S' := MS (up2 I 135 4 1) J cc ss) 1 rfl ?_
  refine ev_n (fr' := (31, [some (vr 135), some (vi y), none], [vi 0])) (S' := MS (up2 I 135 4 1) J cc ss) 4 rfl ?_
  refine ev_r rfl rfl rfl ?_
  exact ⟨rfl, rfl⟩
theorem lp_zero (X : AX) (I J : Nat → Nat → Int) (cc ss : Nat) {Q : (Option AV ⊕ Nat) → AS → Prop} (J0 : F2) (n k : Nat) (hk : k ≤ 477) (hA : ∀ a, a ≠ 137 → J a = J0 a) (hC : ∀ j, J 137 j = if j < k then 0 else J0 137 j) (K : ∀ J', (∀ a, a ≠ 137 → J' a = J0 a) → J' 137 = zeF1 (J0 137) → Ev X k_X9_load (74, [some (vr 135), some (vi (n : Int)), some (vi 477)], []) (MS I J' cc ss) Q) : Ev X k_X9_load (54, [some (vr 135), some (vi (n : Int)), some (vi (k : Int))], []) (MS I J cc ss) (Q) := by
  refine ev_n (fr' := (58, [some (vr 135), some (vi (n : Int)), some (vi (k : Int))], [vi 477, vi (k : Int)])) (S' := MS I J cc ss) 2 rfl ?_
  refine ev_ic (c := .ge) (off := 16) rfl (by decide) (fun (g1 : 477 ≤ (k : Int)) => ?_) (fun (g1 : ¬ (477 ≤ (k : Int))) => ?_)
  · show Ev X k_X9_load (74, [some (vr 135), some (vi (n : Int)), some (vi (k : Int))], []) (MS I J cc ss) _
    have ek : k = 477 := by omega
    subst ek
    exact K J hA (funext hC)
  · show Ev X k_X9_load (61, [some (vr 135), some (vi (n : Int)), some (vi (k : Int))], []) (MS I J cc ss) _
    refine ev_n (fr' := (67, [some (vr 135), some (vi (n : Int)), some (vi (k : Int))], [vl 0, vi (k : Int), vr 137])) (S' := MS I J cc ss) 4 rfl ?_
    refine ev_lasN (j := k) rfl rfl (by omega) (by omega) ?_
    show Ev X k_X9_load (68, [some (vr 135), some (vi (n : Int)), some (vi (k : Int))], []) (MS I (up2 J 137 k 0) cc ss) _
    refine ev_inc (z := (k : Int) + 1) rfl rfl (by omega) (by omega) (by omega) rfl ?_
    show Ev X k_X9_load (71, [some (vr 135), some (vi (n : Int)), some (vi ((k : Int) + 1))], []) (MS I (up2 J 137 k 0) cc ss) _
    refine ev_n (fr' := (54, [some (vr 135), some (vi (n : Int)), some (vi ((k : Int) + 1))], [])) (S' := MS I (up2 J 137 k 0) cc ss) 1 rfl ?_
    exact lp_zero X I _ cc ss J0 n (k + 1) (by omega) (fun a ha => (up2_row _ _ _ _ ha).trans (hA a ha)) (fun j => by
      by_cases e : j = k
      · rw [e, up2_same, if_pos (by omega)]
      · rw [up2_ne2 _ _ _ _ e, hC j]
        by_cases e2 : j < k
        · rw [if_pos e2, if_pos (by omega)]
        · rw [if_neg e2, if_neg (by omega)]) K
termination_by 477 - k
decreasing_by all_goals omega
theorem rb_load (X : AX) (I J : Nat → Nat → Int) (cc ss : Nat) (n : Nat) {tx : F1} {fl : Nat} (hX : TXr I tx fl) (hn4 : n ≤ 4 * fl) {g : F1} (hg : J 136 = g) {hs : Nat → F1} {m : Nat} (hm : I 135 3 = (m : Int)) (hm8 : m ≤ 8) (hH : MH J hs m) : Ev X k_X9_load (0, [some (vr 135), some (vi (n : Int)), none], []) (MS I J cc ss) (PZ cc ss (fun z I' J' => LdR I I' J J' hs m g (pSet true tx n 900 (zeF1 (J 137)) 0) z)) := by
  have h225 := hX.2.1
  refine ev_n (fr' := (8, [some (vr 135), some (vi (n : Int)), none], [vi (I 135 6), vl 0, vl (n : Int), vr 135])) (S' := MS I J cc ss) 6 rfl ?_
  refine ev_eqi (hX.1) ?_
  show Ev X k_X9_load (8, [some (vr 135), some (vi (n : Int)), none], [vi (4 * (fl : Int)), vl 0, vl (n : Int), vr 135]) (MS I J cc ss) _
  refine ev_n (fr' := (9, [some (vr 135), some (vi (n : Int)), none], [vl (4 * (fl : Int)), vl 0, vl (n : Int), vr 135])) (S' := MS I J cc ss) 1 rfl ?_
  refine ev_cv rfl rfl rfl ⟨Nat.le_of_ble_eq_true rfl, Nat.le_of_ble_eq_true rfl⟩ (sp_isIn X _ (n : Int) 0 (4 * (fl : Int)) ) ?_
  show Ev X k_X9_load (12, [some (vr 135), some (vi (n : Int)), none], [vi (if 0 ≤ (n : Int) ∧ (n : Int) ≤ 4 * (fl : Int) then 1 else 0), vr 135]) (MS I J cc ss) _
  refine ev_beq _ rfl (by decide) (fun (g1 : ¬ (0 ≤ (n : Int) ∧ (n : Int) ≤ 4 * (fl : Int))) => False.elim (g1 (by omega))) (fun (g1 : 0 ≤ (n : Int) ∧ (n : Int) ≤ 4 * (fl : Int)) => ?_)
  show Ev X k_X9_load (15, [some (vr 135), some (vi (n : Int)), none], [vr 135]) (MS I J cc ss) _
  refine ev_n (fr' := (20, [some (vr 135), some (vi (n : Int)), none], [vi 0, vr 135])) (S' := MS I J cc ss) 2 rfl ?_
  refine ev_n (fr' := (23, [some (vr 135), some (vi (n : Int)), none], [])) (S' := MS (up2 I 135 4 0) J cc ss) 1 rfl ?_
  refine ev_n (fr' := (34, [some (vr 135), some (vi (n : Int)), none], [vi (n : Int), vr 135])) (S' := MS (up2 I 135 4 0) J cc ss) 5 rfl ?_
  refine ev_n (fr' := (37, [some (vr 135), some (vi (n : Int)), none], [])) (S' := MS (up2 (up2 I 135 4 0) 135 7 (n : Int)) J cc ss) 1 rfl ?_
  refine ev_n (fr' := (39, [some (vr 135), some (vi (n : Int)), none], [vi 0, vr 135])) (S' := MS (up2 (up2 I 135 4 0) 135 7 (n : Int)) J cc ss) 2 rfl ?_
  refine ev_n (fr' := (42, [some (vr 135), some (vi (n : Int)), none], [])) (S' := MS (up2 (up2 (up2 I 135 4 0) 135 7 (n : Int)) 135 6 0) J cc ss) 1 rfl ?_
  refine ev_n (fr' := (44, [some (vr 135), some (vi (n : Int)), none], [vi 0, vr 135])) (S' := MS (up2 (up2 (up2 I 135 4 0) 135 7 (n : Int)) 135 6 0) J cc ss) 2 rfl ?_
  refine ev_n (fr' := (47, [some (vr 135), some (vi (n : Int)), none], [])) (S' := MS (up2 (up2 (up2 (up2 I 135 4 0) 135 7 (n : Int)) 135 6 0) 135 9 0) J cc ss) 1 rfl ?_
  refine ev_n (fr' := (49, [some (vr 135), some (vi (n : Int)), none], [vi 0, vr 135])) (S' := MS (up2 (up2 (up2 (up2 I 135 4 0) 135 7 (n : Int)) 135 6 0) 135 9 0) J cc ss) 2 rfl ?_
  refine ev_n (fr' := (52, [some (vr 135), some (vi (n : Int)), none], [])) (S' := MS (up2 (up2 (up2 (up2 (up2 I 135 4 0) 135 7 (n : Int)) 135 6 0) 135 9 0) 135 11 0) J cc ss) 1 rfl ?_
  refine ev_n (fr' := (54, [some (vr 135), some (vi (n : Int)), some (vi 0)], [])) (S' := MS (up2 (up2 (up2 (up2 (up2 I 135 4 0) 135 7 (n : Int)) 135 6 0) 135 9 0) 135 11 0) J cc ss) 2 rfl ?_
  refine lp_zero X _ _ cc ss J n 0 (by omega) (fun _ _ => rfl) (fun j => (if_neg (by omega)).symm) (fun J81 hJ1 hJz => ?_)
  show Ev X k_X9_load (74, [some (vr 135), some (vi (n : Int)), some (vi 477)], []) (MS (up2 (up2 (up2 (up2 (up2 I 135 4 0) 135 7 (n : Int)) 135 6 0) 135 9 0) 135 11 0) J81 cc ss) _
  obtain ⟨I81, hI1⟩ : ∃ I81, (up2 (up2 (up2 (up2 (up2 I 135 4 0) 135 7 (n : Int)) 135 6 0) 135 9 0) 135 11 0) = I81 := ⟨_, rfl⟩
  have hI2 : ∀ a, a ≠ 135 → I81 a = I a := fun a ha => by rw [← hI1, up2_row _ _ _ _ ha, up2_row _ _ _ _ ha, up2_row _ _ _ _ ha, up2_row _ _ _ _ ha, up2_row _ _ _ _ ha]
  have hI3 : ∀ f, f ≠ 4 → f ≠ 7 → f ≠ 6 → f ≠ 9 → f ≠ 11 → I81 135 f = I 135 f := fun f h1 h2 h3 h4 h5 => by rw [← hI1, up2_ne2 _ _ _ _ h5, up2_ne2 _ _ _ _ h4, up2_ne2 _ _ _ _ h3, up2_ne2 _ _ _ _ h2, up2_ne2 _ _ _ _ h1]
  have hI4 : I81 135 4 = 0 ∧ I81 135 6 = 0 ∧ I81 135 7 = (n : Int) ∧ I81 135 9 = 0 ∧ I81 135 11 = 0 := by rw [← hI1]; exact ⟨rfl, rfl, rfl, rfl, rfl⟩
  rw [hI1]
  have hR : RB I81 tx n := ⟨by have := hX.2.1; omega, hI4.2.2.1, fun k hk => by rw [hI2 139 (by decide)]; exact hX.2.2 k (by omega)⟩
  refine ev_n (fr' := (75, [some (vr 135), some (vi (n : Int)), some (vi 477)], [vr 135])) (S' := MS I81 J81 cc ss) 1 rfl ?_
  refine ev_cp rfl rfl rfl ⟨Nat.le_of_ble_eq_true rfl, Nat.le_of_ble_eq_true rfl⟩ (sp_next X _ _ _ _ hR 0 (Nat.zero_le _) hI4.2.2.2.1) (fun I1 J2 q3 => ?_)
  obtain ⟨hK, hO9, hw9⟩ := q3
  show Ev X k_X9_load (78, [some (vr 135), some (vi (n : Int)), some (vi 477)], []) (MS I1 J2 cc ss) _
  have hw0 := hw9.trans hI4.2.2.2.2
  refine lp_ld X _ _ cc ss I1 J2 (hR.l hO9) 0 900 (Nat.zero_le _) (by have := hR.1; omega) hK hw0 ((hO9.2.2 137 (by decide)).trans hJz) (zeF1_wf _) (zeF1_zd _) (onlyF.refl _ _) ⟨trivial, fun I' J' h => ⟨hR.1, ((h.2.1 7 (by omega)).trans (hO9.2.1 7 (by omega))).trans hR.2.1, fun k hk => by rw [h.1 139 (by decide), hO9.1 139 (by decide)]; exact hR.2.2 k hk⟩⟩ (fun I85 J85 hF hLQ => ?_)
  have hFi : ∀ a, a ≠ 135 → I85 a = I a := fun a ha => (hF.1 a ha).trans ((hO9.1 a ha).trans (hI2 a ha))
  have hFf : ∀ f, f < 8 ∨ 12 < f → I85 135 f = I81 135 f := fun f hf => (hF.2.1 f hf).trans (hO9.2.1 f hf)
  have hFj : ∀ a, a ≠ 135 → a ≠ 137 → J85 a = J a := fun a h1 h2 => (hF.2.2 a h1 h2).trans ((hO9.2.2 a h1).trans (hJ1 a h2))
  rcases hr : pSet true tx n 900 (zeF1 (J 137)) 0 with d1 | ⟨c1, s1⟩ <;> rw [hr] at hLQ
  · show Ev X k_X9_load (150, [some (vr 135), some (vi (n : Int)), some (vi 477)], []) (MS I85 J85 cc ss) _
    obtain ⟨hw5, hd5⟩ := hLQ
    have hwf := pSet_wf 900 _ _ _ (zeF1_wf _) hr
    have h308 := hwf.2.2.1
    have h309 := hwf.2.2.2.1
    have hm5 : I85 135 3 = (m : Int) := (hFf 3 (by omega)).trans ((hI3 3 (by decide) (by decide) (by decide) (by decide) (by decide)).trans hm)
    have hg5 : J85 136 = g := (hFj 136 (by decide) (by decide)).trans hg
    have hH5 : MH J85 hs m := fun q k h1 h2 => by rw [hFj 138 (by decide) (by decide)]; exact hH q k h1 h2
    refine ev_n (fr' := (155, [some (vr 135), some (vi (n : Int)), some (vi 477)], [vi (I85 135 11), vr 135])) (S' := MS I85 J85 cc ss) 3 rfl ?_
    refine ev_eqi (hw5) ?_
    show Ev X k_X9_load (155, [some (vr 135), some (vi (n : Int)), some (vi 477)], [vi 0, vr 135]) (MS I85 J85 cc ss) _
    refine ev_n (fr' := (166, [some (vr 135), some (vi (n : Int)), some (vi 477)], [vi (-1), vr 135])) (S' := MS I85 J85 cc ss) 3 rfl ?_
    refine ev_n (fr' := (169, [some (vr 135), some (vi (n : Int)), some (vi 477)], [])) (S' := MS (up2 I85 135 13 (-1)) J85 cc ss) 1 rfl ?_
    refine ev_n (fr' := (173, [some (vr 135), some (vi (n : Int)), some (vi 477)], [vi (I85 135 11)])) (S' := MS (up2 I85 135 13 (-1)) J85 cc ss) 2 rfl ?_
    refine ev_eqi (hw5) ?_
    show Ev X k_X9_load (173, [some (vr 135), some (vi (n : Int)), some (vi 477)], [vi 0]) (MS (up2 I85 135 13 (-1)) J85 cc ss) _
    refine ev_n (fr' := (182, [some (vr 135), some (vi (n : Int)), some (vi 477)], [vr 135])) (S' := MS (up2 I85 135 13 (-1)) J85 cc ss) 2 rfl ?_
    refine ev_cp rfl rfl rfl ⟨Nat.le_of_ble_eq_true rfl, Nat.le_of_ble_eq_true rfl⟩ (sp_keeps X _ _ _ _ hg5 (m := m) ((up2_ne2 _ _ _ _ (by decide)).trans hm5) hm8 hH5) (fun I4 J5 q6 => ?_)
    obtain ⟨rK, hm9, hH9⟩ := q6
    show Ev X k_X9_load (185, [some (vr 135), some (vi (n : Int)), some (vi 477)], []) (MS I4 J5 cc ss) _
    have h11 : I4 135 11 = 0 := (rK.2.1 11 (by decide)).trans ((up2_ne2 _ _ _ _ (by decide)).trans hw5)
    refine ev_n (fr' := (186, [some (vr 135), some (vi (n : Int)), some (vi 477)], [vr 135])) (S' := MS I4 J5 cc ss) 1 rfl ?_
    refine ev_cp rfl rfl rfl ⟨Nat.le_of_ble_eq_true rfl, Nat.le_of_ble_eq_true rfl⟩ (sp_becomes X _ _ _ _) (fun I4 J7 q8 => ?_)
    obtain ⟨rfl, hB1, hB2⟩ := q8
    show Ev X k_X9_load (189, [some (vr 135), some (vi (n : Int)), some (vi 477)], []) (MS I4 J7 cc ss) _
    have hB : ∀ k, J7 136 k = if k < 477 then d1 k else g k := fun k => by rw [hB2 k, rK.2.2 137 (by decide), rK.2.2 136 (by decide), hd5, hg5]
    have hB308 : J7 136 308 = d1 308 := (hB 308).trans (if_pos (by decide))
    refine ev_n (fr' := (196, [some (vr 135), some (vi (n : Int)), some (vi 477)], [vi 308, vr 136])) (S' := MS I4 J7 cc ss) 3 rfl ?_
    refine ev_laN (j := 308) (z := (d1 308)) rfl rfl (by omega) (by omega) (hB308) ?_
    show Ev X k_X9_load (197, [some (vr 135), some (vi (n : Int)), some (vi 477)], [vl (d1 308)]) (MS I4 J7 cc ss) _
    refine ev_l2i rfl (by omega) (by omega) ?_
    show Ev X k_X9_load (198, [some (vr 135), some (vi (n : Int)), some (vi 477)], [vi (d1 308)]) (MS I4 J7 cc ss) _
    refine ev_r rfl rfl rfl ?_
    have hI5 : ∀ f, f ≠ 3 → f ≠ 13 → I4 135 f = I85 135 f := fun f h1 h2 => (rK.2.1 f h1).trans (up2_ne2 _ _ _ _ h2)
    refine ⟨_, _, _, rfl, rfl, fun a ha => (rK.1 a ha).trans ((up2_row _ _ _ _ ha).trans (hFi a ha)), fun f hf => (hI5 f (by omega) (by omega)).trans ((hFf f (by omega)).trans (hI3 f (by omega) (by omega) (by omega) (by omega) (by omega))), (hI5 4 (by decide) (by decide)).trans ((hFf 4 (by omega)).trans hI4.1), (hI5 6 (by decide) (by decide)).trans ((hFf 6 (by omega)).trans hI4.2.1), fun a h1 h2 h3 h4 => (hB1 a h2).trans ((rK.2.2 a h4).trans (hFj a h1 h3)), ?_⟩
    exact ⟨rfl, (rK.2.1 13 (by decide)).trans (up2_same _ _ _ _), hm9, fun q k h1 h2 => by rw [hB1 138 (by decide)]; exact hH9 q k h1 h2, hB⟩
  · show Ev X k_X9_load (150, [some (vr 135), some (vi (n : Int)), some (vi 477)], []) (MS I85 J85 cc ss) _
    obtain ⟨hc5, hne5, hs5⟩ := hLQ
    refine ev_n (fr' := (155, [some (vr 135), some (vi (n : Int)), some (vi 477)], [vi (I85 135 11), vr 135])) (S' := MS I85 J85 cc ss) 3 rfl ?_
    refine ev_eqi (hc5) ?_
    show Ev X k_X9_load (155, [some (vr 135), some (vi (n : Int)), some (vi 477)], [vi c1, vr 135]) (MS I85 J85 cc ss) _
    refine ev_if (c := .ne) (off := 7) rfl (by decide) (fun (g2 : c1 ≠ 0) => ?_) (fun (g2 : ¬ (c1 ≠ 0)) => False.elim (g2 hne5))
    show Ev X k_X9_load (162, [some (vr 135), some (vi (n : Int)), some (vi 477)], [vr 135]) (MS I85 J85 cc ss) _
    refine ev_n (fr' := (166, [some (vr 135), some (vi (n : Int)), some (vi 477)], [vi (I85 135 12), vr 135])) (S' := MS I85 J85 cc ss) 2 rfl ?_
    refine ev_eqi (hs5) ?_
    show Ev X k_X9_load (166, [some (vr 135), some (vi (n : Int)), some (vi 477)], [vi (s1 : Int), vr 135]) (MS I85 J85 cc ss) _
    refine ev_n (fr' := (169, [some (vr 135), some (vi (n : Int)), some (vi 477)], [])) (S' := MS (up2 I85 135 13 (s1 : Int)) J85 cc ss) 1 rfl ?_
    refine ev_n (fr' := (173, [some (vr 135), some (vi (n : Int)), some (vi 477)], [vi (I85 135 11)])) (S' := MS (up2 I85 135 13 (s1 : Int)) J85 cc ss) 2 rfl ?_
    refine ev_eqi (hc5) ?_
    show Ev X k_X9_load (173, [some (vr 135), some (vi (n : Int)), some (vi 477)], [vi c1]) (MS (up2 I85 135 13 (s1 : Int)) J85 cc ss) _
    refine ev_if (c := .eq) (off := 8) rfl (by decide) (fun (g3 : c1 = 0) => False.elim (hne5 g3)) (fun (g3 : ¬ (c1 = 0)) => ?_)
    show Ev X k_X9_load (176, [some (vr 135), some (vi (n : Int)), some (vi 477)], []) (MS (up2 I85 135 13 (s1 : Int)) J85 cc ss) _
    refine ev_n (fr' := (180, [some (vr 135), some (vi (n : Int)), some (vi 477)], [vi (I85 135 11)])) (S' := MS (up2 I85 135 13 (s1 : Int)) J85 cc ss) 2 rfl ?_
    refine ev_eqi (hc5) ?_
    show Ev X k_X9_load (180, [some (vr 135), some (vi (n : Int)), some (vi 477)], [vi c1]) (MS (up2 I85 135 13 (s1 : Int)) J85 cc ss) _
    refine ev_r rfl rfl rfl ?_
    refine ⟨_, _, _, rfl, rfl, fun a ha => (up2_row _ _ _ _ ha).trans (hFi a ha), fun f hf => (up2_ne2 _ _ _ _ (by omega)).trans ((hFf f (by omega)).trans (hI3 f (by omega) (by omega) (by omega) (by omega) (by omega))), (up2_ne2 _ _ _ _ (by decide)).trans ((hFf 4 (by omega)).trans hI4.1), (up2_ne2 _ _ _ _ (by decide)).trans ((hFf 6 (by omega)).trans hI4.2.1), fun a h1 h2 h3 h4 => hFj a h1 h3, ?_⟩
    exact ⟨rfl, up2_same _ _ _ _, (up2_ne2 _ _ _ _ (by decide)).trans ((hFf 3 (by omega)).trans (hI3 3 (by decide) (by decide) (by decide) (by decide) (by decide))), hFj 138 (by decide) (by decide), hFj 136 (by decide) (by decide)⟩
