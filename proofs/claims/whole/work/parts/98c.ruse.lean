/-! THE REFERENCE reads uses (printed by gen/g98c.py) -/
theorem wrU_1 {d : F1} {lo : Nat} {t : Int} (hz : ∀ k, lo ≤ k → k < lo + 3 → d k = 0) : upd1 d lo t = wrS d lo 3 (vUF t 0 0) := by
  funext k
  unfold upd1 wrS vUF
  by_cases h : lo ≤ k ∧ k < lo + 3
  · rw [if_pos h]
    by_cases h0 : k = lo
    · rw [if_pos h0, if_pos (by omega)]
    · rw [if_neg h0, if_neg (by omega), hz k h.1 h.2]
      by_cases h1 : k - lo = 1
      · rw [if_pos h1]
      · rw [if_neg h1, if_pos (by omega)]
  · rw [if_neg h, if_neg (by omega)]
theorem wrU_3 {d : F1} {lo : Nat} {t y z : Int} : upd1 (upd1 (upd1 d lo t) (lo + 1) y) (lo + 2) z = wrS d lo 3 (vUF t y z) := by
  funext k
  unfold upd1 wrS vUF
  by_cases h : lo ≤ k ∧ k < lo + 3
  · rw [if_pos h]
    by_cases h2 : k = lo + 2
    · rw [if_pos h2, if_neg (by omega), if_neg (by omega), if_pos (by omega)]
    · rw [if_neg h2]
      by_cases h1 : k = lo + 1
      · rw [if_pos h1, if_neg (by omega), if_pos (by omega)]
      · rw [if_neg h1, if_pos (by omega), if_pos (by omega)]
  · rw [if_neg h, if_neg (by omega), if_neg (by omega), if_neg (by omega)]
theorem lp_ru (X : AX) (I J : Nat → Nat → Int) (cc ss : Nat) {Q : (Option AV ⊕ Nat) → AS → Prop} (i : Nat) (hi8 : i < 8) {d : F1} (hd : J 137 = d) {N : Nat} (hN : d 11 = (N : Int)) (hN8 : N ≤ 8) (x : Int) (t : Nat) (ht : t ≤ N) (hq : ∀ q, q < t → d (q + 461) ≠ x) (K : ∀ t, (t = N ∧ ∀ q, q < N → d (q + 461) ≠ x) ∨ (t < N ∧ d (t + 461) = x ∧ ∀ q, q < t → d (q + 461) ≠ x) → Ev X k_X9_readsUse (44, [some (vr 135), some (vi (19 * (i : Int) + 309)), some (vl x), none, some (vi (t : Int)), none], []) (MS I J cc ss) Q) : Ev X k_X9_readsUse (8, [some (vr 135), some (vi (19 * (i : Int) + 309)), some (vl x), none, some (vi (t : Int)), none], []) (MS I J cc ss) (Q) := by
  refine ev_n (fr' := (17, [some (vr 135), some (vi (19 * (i : Int) + 309)), some (vl x), none, some (vi (t : Int)), none], [vi 11, vr 137, vl (t : Int)])) (S' := MS I J cc ss) 5 rfl ?_
  refine ev_laN (j := 11) (z := (N : Int)) rfl rfl (by omega) (by omega) ((congrFun hd _).trans hN) ?_
  show Ev X k_X9_readsUse (18, [some (vr 135), some (vi (19 * (i : Int) + 309)), some (vl x), none, some (vi (t : Int)), none], [vl (N : Int), vl (t : Int)]) (MS I J cc ss) _
  refine ev_lc (c := .ge) (off := 25) rfl rfl (by decide) (fun (g1 : (N : Int) ≤ (t : Int)) => ?_) (fun (g1 : ¬ ((N : Int) ≤ (t : Int))) => ?_)
  · show Ev X k_X9_readsUse (44, [some (vr 135), some (vi (19 * (i : Int) + 309)), some (vl x), none, some (vi (t : Int)), none], []) (MS I J cc ss) _
    exact K t (Or.inl ⟨by omega, fun q h => hq q (by omega)⟩)
  · show Ev X k_X9_readsUse (22, [some (vr 135), some (vi (19 * (i : Int) + 309)), some (vl x), none, some (vi (t : Int)), none], []) (MS I J cc ss) _
    refine ev_n (fr' := (31, [some (vr 135), some (vi (19 * (i : Int) + 309)), some (vl x), none, some (vi (t : Int)), none], [vi (t : Int), vi 461, vr 137])) (S' := MS I J cc ss) 4 rfl ?_
    refine ev_add (z := (t : Int) + 461) rfl (by omega) (by omega) (by omega) ?_
    show Ev X k_X9_readsUse (32, [some (vr 135), some (vi (19 * (i : Int) + 309)), some (vl x), none, some (vi (t : Int)), none], [vi ((t : Int) + 461), vr 137]) (MS I J cc ss) _
    refine ev_laN (j := t + 461) (z := (d (t + 461))) rfl rfl (by omega) (by omega) (congrFun hd _) ?_
    show Ev X k_X9_readsUse (33, [some (vr 135), some (vi (19 * (i : Int) + 309)), some (vl x), none, some (vi (t : Int)), none], [vl (d (t + 461))]) (MS I J cc ss) _
    refine ev_n (fr' := (34, [some (vr 135), some (vi (19 * (i : Int) + 309)), some (vl x), none, some (vi (t : Int)), none], [vl x, vl (d (t + 461))])) (S' := MS I J cc ss) 1 rfl ?_
    refine ev_lc (c := .eq) (off := 9) rfl rfl (by decide) (fun (g2 : (d (t + 461)) = x) => ?_) (fun (g2 : ¬ ((d (t + 461)) = x)) => ?_)
    · show Ev X k_X9_readsUse (44, [some (vr 135), some (vi (19 * (i : Int) + 309)), some (vl x), none, some (vi (t : Int)), none], []) (MS I J cc ss) _
      exact K t (Or.inr ⟨by omega, g2, hq⟩)
    · show Ev X k_X9_readsUse (38, [some (vr 135), some (vi (19 * (i : Int) + 309)), some (vl x), none, some (vi (t : Int)), none], []) (MS I J cc ss) _
      refine ev_inc (z := (t : Int) + 1) rfl rfl (by omega) (by omega) (by omega) rfl ?_
      show Ev X k_X9_readsUse (41, [some (vr 135), some (vi (19 * (i : Int) + 309)), some (vl x), none, some (vi ((t : Int) + 1)), none], []) (MS I J cc ss) _
      refine ev_n (fr' := (8, [some (vr 135), some (vi (19 * (i : Int) + 309)), some (vl x), none, some (vi ((t : Int) + 1)), none], [])) (S' := MS I J cc ss) 1 rfl ?_
      exact lp_ru X _ _ cc ss i hi8 hd hN hN8 x (t + 1) (by omega) (nlt_succ hq g2) K
termination_by N - t
decreasing_by all_goals omega
theorem sp_readsUse (X : AX) (I J : Nat → Nat → Int) (cc ss : Nat) {tx : F1} {n : Nat} (hR : RB I tx n) (a : Nat) (hK : TK I J tx n a) (hw0 : I 135 11 = 0) (i c : Nat) (hi8 : i < 8) (hc6 : c < 6) {d : F1} (hd : J 137 = d) {N : Nat} (hN : d 11 = (N : Int)) (hN8 : N ≤ 8) (hc : d (19 * i + 309) = (c : Int)) (hz : ∀ k, 19 * i + 3 * c + 310 ≤ k → k < 461 → d k = 0) : Ev X k_X9_readsUse (0, [some (vr 135), some (vi (19 * (i : Int) + 309)), none, none, none, none], []) (MS I J cc ss) (PV cc ss none (fun I' J' => RS I I' J J' tx n (mapR (puU d i c) (pUs false tx n d a)))) := by
  have ha := hK.1
  have hO := onlyF.refl I J
  have hwr := wd_rng (tx := tx) (n := n) (a := a)
  refine ev_n (fr' := (1, [some (vr 135), some (vi (19 * (i : Int) + 309)), none, none, none, none], [vr 135])) (S' := MS I J cc ss) 1 rfl ?_
  rcases Decidable.em (wdF tx n a = 0) with hz0 | hz0
  · show Ev X k_X9_readsUse (1, [some (vr 135), some (vi (19 * (i : Int) + 309)), none, none, none, none], [vr 135]) (MS I J cc ss) _
    refine ev_cv rfl rfl rfl ⟨Nat.le_of_ble_eq_true rfl, Nat.le_of_ble_eq_true rfl⟩ (sp_nameHere0 X _ _ _ _ hR a hK hw0 hz0) ?_
    show Ev X k_X9_readsUse (4, [some (vr 135), some (vi (19 * (i : Int) + 309)), none, none, none, none], [vl 0]) (MS (up2 (up2 I 135 11 (-2)) 135 12 (a : Int)) J cc ss) _
    have hwE : (up2 (up2 I 135 11 (-2)) 135 12 (a : Int)) 135 11 ≠ 0 := EE.ne (EE.mk (by decide))
    refine ev_n (fr' := (8, [some (vr 135), some (vi (19 * (i : Int) + 309)), some (vl 0), none, some (vi 0), none], [])) (S' := MS (up2 (up2 I 135 11 (-2)) 135 12 (a : Int)) J cc ss) 3 rfl ?_
    refine lp_ru X _ _ cc ss i hi8 hd hN hN8 0 0 (by omega) (fun q h => absurd h (by omega)) (fun t hcase => ?_)
    show Ev X k_X9_readsUse (44, [some (vr 135), some (vi (19 * (i : Int) + 309)), some (vl 0), none, some (vi (t : Int)), none], []) (MS (up2 (up2 I 135 11 (-2)) 135 12 (a : Int)) J cc ss) _
    have ht : t ≤ N := by omega
    refine ev_n (fr' := (53, [some (vr 135), some (vi (19 * (i : Int) + 309)), some (vl 0), none, some (vi (t : Int)), none], [vi 11, vr 137, vl (t : Int)])) (S' := MS (up2 (up2 I 135 11 (-2)) 135 12 (a : Int)) J cc ss) 5 rfl ?_
    refine ev_laN (j := 11) (z := (N : Int)) rfl rfl (by omega) (by omega) ((congrFun hd _).trans hN) ?_
    show Ev X k_X9_readsUse (54, [some (vr 135), some (vi (19 * (i : Int) + 309)), some (vl 0), none, some (vi (t : Int)), none], [vl (N : Int), vl (t : Int)]) (MS (up2 (up2 I 135 11 (-2)) 135 12 (a : Int)) J cc ss) _
    refine ev_lc (c := .ne) (off := 9) rfl rfl (by decide) (fun (g1 : (t : Int) ≠ (N : Int)) => ?_) (fun (g1 : ¬ ((t : Int) ≠ (N : Int))) => ?_)
    · show Ev X k_X9_readsUse (64, [some (vr 135), some (vi (19 * (i : Int) + 309)), some (vl 0), none, some (vi (t : Int)), none], []) (MS (up2 (up2 I 135 11 (-2)) 135 12 (a : Int)) J cc ss) _
      refine ev_n (fr' := (77, [some (vr 135), some (vi (19 * (i : Int) + 309)), some (vl 0), none, some (vi (t : Int)), none], [vi 0, vr 135])) (S' := MS (up2 (up2 I 135 11 (-2)) 135 12 (a : Int)) J cc ss) 5 rfl ?_
      refine ev_cv rfl rfl rfl ⟨Nat.le_of_ble_eq_true rfl, Nat.le_of_ble_eq_true rfl⟩ (sp_mustE0 X _ _ _ _ hwE) ?_
      show Ev X k_X9_readsUse (80, [some (vr 135), some (vi (19 * (i : Int) + 309)), some (vl 0), none, some (vi (t : Int)), none], []) (MS (up2 (up2 I 135 11 (-2)) 135 12 (a : Int)) J cc ss) _
      refine ev_n (fr' := (87, [some (vr 135), some (vi (19 * (i : Int) + 309)), some (vl 0), none, some (vi (t : Int)), none], [])) (S' := MS (up2 (up2 I 135 11 (-2)) 135 12 (a : Int)) J cc ss) 3 rfl ?_
      refine ev_r rfl rfl rfl ?_
      have hX : pUs false tx n d a = .inr (-2, a) := by unfold pUs; rw [if_pos hz0]
      rw [hX]
      exact ⟨_, _, rfl, rfl, (onlyF.refl _ _).e, EE.mk (by decide)⟩
    · show Ev X k_X9_readsUse (58, [some (vr 135), some (vi (19 * (i : Int) + 309)), some (vl 0), none, some (vi (t : Int)), none], []) (MS (up2 (up2 I 135 11 (-2)) 135 12 (a : Int)) J cc ss) _
      refine ev_n (fr' := (61, [some (vr 135), some (vi (19 * (i : Int) + 309)), some (vl 0), none, some (vi (t : Int)), none], [vi (-3), vr 135])) (S' := MS (up2 (up2 I 135 11 (-2)) 135 12 (a : Int)) J cc ss) 2 rfl ?_
      refine ev_cv rfl rfl rfl ⟨Nat.le_of_ble_eq_true rfl, Nat.le_of_ble_eq_true rfl⟩ (sp_failsE X _ _ _ _ (-3) hwE) ?_
      show Ev X k_X9_readsUse (64, [some (vr 135), some (vi (19 * (i : Int) + 309)), some (vl 0), none, some (vi (t : Int)), none], []) (MS (up2 (up2 I 135 11 (-2)) 135 12 (a : Int)) J cc ss) _
      refine ev_n (fr' := (77, [some (vr 135), some (vi (19 * (i : Int) + 309)), some (vl 0), none, some (vi (t : Int)), none], [vi 0, vr 135])) (S' := MS (up2 (up2 I 135 11 (-2)) 135 12 (a : Int)) J cc ss) 5 rfl ?_
      refine ev_cv rfl rfl rfl ⟨Nat.le_of_ble_eq_true rfl, Nat.le_of_ble_eq_true rfl⟩ (sp_mustE0 X _ _ _ _ hwE) ?_
      show Ev X k_X9_readsUse (80, [some (vr 135), some (vi (19 * (i : Int) + 309)), some (vl 0), none, some (vi (t : Int)), none], []) (MS (up2 (up2 I 135 11 (-2)) 135 12 (a : Int)) J cc ss) _
      refine ev_n (fr' := (87, [some (vr 135), some (vi (19 * (i : Int) + 309)), some (vl 0), none, some (vi (t : Int)), none], [])) (S' := MS (up2 (up2 I 135 11 (-2)) 135 12 (a : Int)) J cc ss) 3 rfl ?_
      refine ev_r rfl rfl rfl ?_
      have hX : pUs false tx n d a = .inr (-2, a) := by unfold pUs; rw [if_pos hz0]
      rw [hX]
      exact ⟨_, _, rfl, rfl, (onlyF.refl _ _).e, EE.mk (by decide)⟩
  · show Ev X k_X9_readsUse (1, [some (vr 135), some (vi (19 * (i : Int) + 309)), none, none, none, none], [vr 135]) (MS I J cc ss) _
    refine ev_cv rfl rfl rfl ⟨Nat.le_of_ble_eq_true rfl, Nat.le_of_ble_eq_true rfl⟩ (sp_nameHere1 X _ _ _ _ hR a hK hw0 hz0) ?_
    show Ev X k_X9_readsUse (4, [some (vr 135), some (vi (19 * (i : Int) + 309)), none, none, none, none], [vl (wdF tx n a)]) (MS I J cc ss) _
    refine ev_n (fr' := (8, [some (vr 135), some (vi (19 * (i : Int) + 309)), some (vl (wdF tx n a)), none, some (vi 0), none], [])) (S' := MS I J cc ss) 3 rfl ?_
    refine lp_ru X _ _ cc ss i hi8 hd hN hN8 (wdF tx n a) 0 (by omega) (fun q h => absurd h (by omega)) (fun t hcase => ?_)
    show Ev X k_X9_readsUse (44, [some (vr 135), some (vi (19 * (i : Int) + 309)), some (vl (wdF tx n a)), none, some (vi (t : Int)), none], []) (MS I J cc ss) _
    have ht : t ≤ N := by omega
    refine ev_n (fr' := (53, [some (vr 135), some (vi (19 * (i : Int) + 309)), some (vl (wdF tx n a)), none, some (vi (t : Int)), none], [vi 11, vr 137, vl (t : Int)])) (S' := MS I J cc ss) 5 rfl ?_
    refine ev_laN (j := 11) (z := (N : Int)) rfl rfl (by omega) (by omega) ((congrFun hd _).trans hN) ?_
    show Ev X k_X9_readsUse (54, [some (vr 135), some (vi (19 * (i : Int) + 309)), some (vl (wdF tx n a)), none, some (vi (t : Int)), none], [vl (N : Int), vl (t : Int)]) (MS I J cc ss) _
    refine ev_lc (c := .ne) (off := 9) rfl rfl (by decide) (fun (g1 : (t : Int) ≠ (N : Int)) => ?_) (fun (g1 : ¬ ((t : Int) ≠ (N : Int))) => ?_)
    · show Ev X k_X9_readsUse (64, [some (vr 135), some (vi (19 * (i : Int) + 309)), some (vl (wdF tx n a)), none, some (vi (t : Int)), none], []) (MS I J cc ss) _
      refine ev_n (fr' := (69, [some (vr 135), some (vi (19 * (i : Int) + 309)), some (vl (wdF tx n a)), none, some (vi (t : Int)), none], [vi (I 135 11), vr 135])) (S' := MS I J cc ss) 3 rfl ?_
      refine ev_eqi (hw0) ?_
      show Ev X k_X9_readsUse (69, [some (vr 135), some (vi (19 * (i : Int) + 309)), some (vl (wdF tx n a)), none, some (vi (t : Int)), none], [vi 0, vr 135]) (MS I J cc ss) _
      refine ev_n (fr' := (77, [some (vr 135), some (vi (19 * (i : Int) + 309)), some (vl (wdF tx n a)), none, some (vi (t : Int)), none], [vi 1, vr 135])) (S' := MS I J cc ss) 3 rfl ?_
      refine ev_cp rfl rfl rfl ⟨Nat.le_of_ble_eq_true rfl, Nat.le_of_ble_eq_true rfl⟩ (sp_mustT X _ _ _ _ hR a hK hw0) (fun I1 J2 q3 => ?_)
      obtain ⟨hK, hO9, hw0⟩ := q3
      show Ev X k_X9_readsUse (80, [some (vr 135), some (vi (19 * (i : Int) + 309)), some (vl (wdF tx n a)), none, some (vi (t : Int)), none], []) (MS I1 J2 cc ss) _
      rw [en_0 (wd_kd hz0).1] at hK
      have hR := hR.l hO9
      have hO := hO.trans hO9.f
      have hd := (hO9.2.2 137 (by decide)).trans hd
      have hc9 : t < N ∧ d (t + 461) = wdF tx n a ∧ ∀ q, q < t → d (q + 461) ≠ wdF tx n a := by
        rcases hcase with h9 | h9
        · exact absurd h9.1 (by omega)
        · exact h9
      have hfd : paF tx n d a = (t : Int) := fnd_hit (f := fun r => d (r + 461)) hc9.2.1 _ 0 (fun q _ h => hc9.2.2 q h) (by omega) (by omega)
      refine ev_n (fr' := (84, [some (vr 135), some (vi (19 * (i : Int) + 309)), some (vl (wdF tx n a)), none, some (vi (t : Int)), none], [vi (I1 135 11)])) (S' := MS I1 J2 cc ss) 2 rfl ?_
      refine ev_eqi (hw0) ?_
      show Ev X k_X9_readsUse (84, [some (vr 135), some (vi (19 * (i : Int) + 309)), some (vl (wdF tx n a)), none, some (vi (t : Int)), none], [vi 0]) (MS I1 J2 cc ss) _
      refine ev_n (fr' := (90, [some (vr 135), some (vi (19 * (i : Int) + 309)), some (vl (wdF tx n a)), none, some (vi (t : Int)), none], [vi 1, vi (19 * (i : Int) + 309)])) (S' := MS I1 J2 cc ss) 3 rfl ?_
      refine ev_add (z := 19 * (i : Int) + 310) rfl (by omega) (by omega) (by omega) ?_
      show Ev X k_X9_readsUse (91, [some (vr 135), some (vi (19 * (i : Int) + 309)), some (vl (wdF tx n a)), none, some (vi (t : Int)), none], [vi (19 * (i : Int) + 310)]) (MS I1 J2 cc ss) _
      refine ev_n (fr' := (97, [some (vr 135), some (vi (19 * (i : Int) + 309)), some (vl (wdF tx n a)), none, some (vi (t : Int)), none], [vi (19 * (i : Int) + 309), vr 137, vi 3, vi (19 * (i : Int) + 310)])) (S' := MS I1 J2 cc ss) 4 rfl ?_
      refine ev_laN (j := 19 * i + 309) (z := (c : Int)) rfl rfl (by omega) (by omega) ((congrFun hd _).trans (by first | exact hc | (rw [upd1_ne _ _ _ (by omega)]; exact hc) | (rw [upd1_ne _ _ _ (by omega), upd1_ne _ _ _ (by omega)]; exact hc) | (rw [upd1_ne _ _ _ (by omega), upd1_ne _ _ _ (by omega), upd1_ne _ _ _ (by omega)]; exact hc))) ?_
      show Ev X k_X9_readsUse (98, [some (vr 135), some (vi (19 * (i : Int) + 309)), some (vl (wdF tx n a)), none, some (vi (t : Int)), none], [vl (c : Int), vi 3, vi (19 * (i : Int) + 310)]) (MS I1 J2 cc ss) _
      refine ev_l2i rfl (by omega) (by omega) ?_
      show Ev X k_X9_readsUse (99, [some (vr 135), some (vi (19 * (i : Int) + 309)), some (vl (wdF tx n a)), none, some (vi (t : Int)), none], [vi (c : Int), vi 3, vi (19 * (i : Int) + 310)]) (MS I1 J2 cc ss) _
      refine ev_mul (z := 3 * (c : Int)) rfl (by omega) (by omega) (by omega) ?_
      show Ev X k_X9_readsUse (100, [some (vr 135), some (vi (19 * (i : Int) + 309)), some (vl (wdF tx n a)), none, some (vi (t : Int)), none], [vi (3 * (c : Int)), vi (19 * (i : Int) + 310)]) (MS I1 J2 cc ss) _
      refine ev_add (z := 19 * (i : Int) + 3 * (c : Int) + 310) rfl (by omega) (by omega) (by omega) ?_
      show Ev X k_X9_readsUse (101, [some (vr 135), some (vi (19 * (i : Int) + 309)), some (vl (wdF tx n a)), none, some (vi (t : Int)), none], [vi (19 * (i : Int) + 3 * (c : Int) + 310)]) (MS I1 J2 cc ss) _
      refine ev_n (fr' := (112, [some (vr 135), some (vi (19 * (i : Int) + 309)), some (vl (wdF tx n a)), none, some (vi (t : Int)), some (vi (19 * (i : Int) + 3 * (c : Int) + 310))], [vl (t : Int), vi (19 * (i : Int) + 3 * (c : Int) + 310), vr 137])) (S' := MS I1 J2 cc ss) 6 rfl ?_
      refine ev_lasN (j := 19 * i + 3 * c + 310) rfl rfl (by omega) (by omega) ?_
      show Ev X k_X9_readsUse (113, [some (vr 135), some (vi (19 * (i : Int) + 309)), some (vl (wdF tx n a)), none, some (vi (t : Int)), some (vi (19 * (i : Int) + 3 * (c : Int) + 310))], []) (MS I1 (up2 J2 137 (19 * i + 3 * c + 310) (t : Int)) cc ss) _
      have hd : (up2 J2 137 (19 * i + 3 * c + 310) (t : Int)) 137 = _ := up2_u1 hd
      have hO := hO.j (k := 19 * i + 3 * c + 310) (v := (t : Int))
      have hK := hK.j (k := 19 * i + 3 * c + 310) (v := (t : Int))
      refine ev_n (fr' := (116, [some (vr 135), some (vi (19 * (i : Int) + 309)), some (vl (wdF tx n a)), none, some (vi (t : Int)), some (vi (19 * (i : Int) + 3 * (c : Int) + 310))], [vr 1000107, vr 135])) (S' := MS I1 (up2 J2 137 (19 * i + 3 * c + 310) (t : Int)) cc ss) 2 rfl ?_
      refine ev_cv rfl rfl rfl ⟨Nat.le_of_ble_eq_true rfl, Nat.le_of_ble_eq_true rfl⟩ (sp_isWord_7 X _ _ _ _ hR (spF tx n (leF tx n a)) hK hw0) ?_
      show Ev X k_X9_readsUse (119, [some (vr 135), some (vi (19 * (i : Int) + 309)), some (vl (wdF tx n a)), none, some (vi (t : Int)), some (vi (19 * (i : Int) + 3 * (c : Int) + 310))], [vi (if wdF tx n (spF tx n (leF tx n a)) = 52 then 1 else 0)]) (MS I1 (up2 J2 137 (19 * i + 3 * c + 310) (t : Int)) cc ss) _
      refine ev_beq _ rfl (by decide) (fun (g2 : ¬ (wdF tx n (spF tx n (leF tx n a)) = 52)) => ?_) (fun (g2 : wdF tx n (spF tx n (leF tx n a)) = 52) => ?_)
      · show Ev X k_X9_readsUse (159, [some (vr 135), some (vi (19 * (i : Int) + 309)), some (vl (wdF tx n a)), none, some (vi (t : Int)), some (vi (19 * (i : Int) + 3 * (c : Int) + 310))], []) (MS I1 (up2 J2 137 (19 * i + 3 * c + 310) (t : Int)) cc ss) _
        refine ev_n (fr' := (165, [some (vr 135), some (vi (19 * (i : Int) + 309)), some (vl (wdF tx n a)), none, some (vi (t : Int)), some (vi (19 * (i : Int) + 3 * (c : Int) + 310))], [vi (19 * (i : Int) + 309), vr 137, vi (19 * (i : Int) + 309), vr 137])) (S' := MS I1 (up2 J2 137 (19 * i + 3 * c + 310) (t : Int)) cc ss) 4 rfl ?_
        refine ev_laN (j := 19 * i + 309) (z := (c : Int)) rfl rfl (by omega) (by omega) ((congrFun hd _).trans (by first | exact hc | (rw [upd1_ne _ _ _ (by omega)]; exact hc) | (rw [upd1_ne _ _ _ (by omega), upd1_ne _ _ _ (by omega)]; exact hc) | (rw [upd1_ne _ _ _ (by omega), upd1_ne _ _ _ (by omega), upd1_ne _ _ _ (by omega)]; exact hc))) ?_
        show Ev X k_X9_readsUse (166, [some (vr 135), some (vi (19 * (i : Int) + 309)), some (vl (wdF tx n a)), none, some (vi (t : Int)), some (vi (19 * (i : Int) + 3 * (c : Int) + 310))], [vl (c : Int), vi (19 * (i : Int) + 309), vr 137]) (MS I1 (up2 J2 137 (19 * i + 3 * c + 310) (t : Int)) cc ss) _
        refine ev_n (fr' := (167, [some (vr 135), some (vi (19 * (i : Int) + 309)), some (vl (wdF tx n a)), none, some (vi (t : Int)), some (vi (19 * (i : Int) + 3 * (c : Int) + 310))], [vl 1, vl (c : Int), vi (19 * (i : Int) + 309), vr 137])) (S' := MS I1 (up2 J2 137 (19 * i + 3 * c + 310) (t : Int)) cc ss) 1 rfl ?_
        refine ev_ladd (z := (c : Int) + 1) rfl (by omega) (by omega) (by omega) ?_
        show Ev X k_X9_readsUse (168, [some (vr 135), some (vi (19 * (i : Int) + 309)), some (vl (wdF tx n a)), none, some (vi (t : Int)), some (vi (19 * (i : Int) + 3 * (c : Int) + 310))], [vl ((c : Int) + 1), vi (19 * (i : Int) + 309), vr 137]) (MS I1 (up2 J2 137 (19 * i + 3 * c + 310) (t : Int)) cc ss) _
        refine ev_lasN (j := 19 * i + 309) rfl rfl (by omega) (by omega) ?_
        show Ev X k_X9_readsUse (169, [some (vr 135), some (vi (19 * (i : Int) + 309)), some (vl (wdF tx n a)), none, some (vi (t : Int)), some (vi (19 * (i : Int) + 3 * (c : Int) + 310))], []) (MS I1 (up2 (up2 J2 137 (19 * i + 3 * c + 310) (t : Int)) 137 (19 * i + 309) ((c : Int) + 1)) cc ss) _
        have hd : (up2 (up2 J2 137 (19 * i + 3 * c + 310) (t : Int)) 137 (19 * i + 309) ((c : Int) + 1)) 137 = _ := up2_u1 hd
        have hO := hO.j (k := 19 * i + 309) (v := ((c : Int) + 1))
        have hK := hK.j (k := 19 * i + 309) (v := ((c : Int) + 1))
        refine ev_r rfl rfl rfl ?_
        have hnf : ¬ paF tx n d a = -1 := by omega
        have hX : pUs false tx n d a = .inl ((spF tx n (leF tx n a)), vUF (paF tx n d a) 0 0) := by
          unfold pUs; rw [if_neg hz0, if_neg hnf]
          by_cases hk9 : kdF tx n (spF tx n (leF tx n a)) = 0
          · rw [if_pos hk9, if_neg g2, if_neg (by decide)]
          · rw [if_neg hk9]
        rw [hX, hfd]
        rw [wrU_1 (fun k h1 h2 => hz k (by omega) (by omega))] at hd
        have hrow : ∀ v : F1, upd1 (wrS d (19 * i + 3 * c + 310) 3 v) (19 * i + 309) ((c : Int) + 1) = puU d i c v := fun v => rfl
        exact ⟨_, _, rfl, rfl, hO, by rw [spF_idem]; exact hK, hw0, hd, spF_le (tx := tx) (n := n) _ (leF_le (tx := tx) (n := n) a ha)⟩
      · show Ev X k_X9_readsUse (122, [some (vr 135), some (vi (19 * (i : Int) + 309)), some (vl (wdF tx n a)), none, some (vi (t : Int)), some (vi (19 * (i : Int) + 3 * (c : Int) + 310))], []) (MS I1 (up2 J2 137 (19 * i + 3 * c + 310) (t : Int)) cc ss) _
        refine ev_n (fr' := (124, [some (vr 135), some (vi (19 * (i : Int) + 309)), some (vl (wdF tx n a)), none, some (vi (t : Int)), some (vi (19 * (i : Int) + 3 * (c : Int) + 310))], [vi 1, vr 135])) (S' := MS I1 (up2 J2 137 (19 * i + 3 * c + 310) (t : Int)) cc ss) 2 rfl ?_
        refine ev_cp rfl rfl rfl ⟨Nat.le_of_ble_eq_true rfl, Nat.le_of_ble_eq_true rfl⟩ (sp_mustT X _ _ _ _ hR (spF tx n (leF tx n a)) hK hw0) (fun I4 J5 q6 => ?_)
        obtain ⟨hK, hO9, hw0⟩ := q6
        show Ev X k_X9_readsUse (127, [some (vr 135), some (vi (19 * (i : Int) + 309)), some (vl (wdF tx n a)), none, some (vi (t : Int)), some (vi (19 * (i : Int) + 3 * (c : Int) + 310))], []) (MS I4 J5 cc ss) _
        have h52 : wdF tx n (spF tx n (leF tx n a)) ≠ 0 := by omega
        rw [en_0 (wd_kd h52).1] at hK
        have hR := hR.l hO9
        have hO := hO.trans hO9.f
        have hd := (hO9.2.2 137 (by decide)).trans hd
        refine ev_n (fr' := (134, [some (vr 135), some (vi (19 * (i : Int) + 309)), some (vl (wdF tx n a)), none, some (vi (t : Int)), some (vi (19 * (i : Int) + 3 * (c : Int) + 310))], [vi 1, vi (19 * (i : Int) + 3 * (c : Int) + 310), vr 137])) (S' := MS I4 J5 cc ss) 4 rfl ?_
        refine ev_add (z := 19 * (i : Int) + 3 * (c : Int) + 311) rfl (by omega) (by omega) (by omega) ?_
        show Ev X k_X9_readsUse (135, [some (vr 135), some (vi (19 * (i : Int) + 309)), some (vl (wdF tx n a)), none, some (vi (t : Int)), some (vi (19 * (i : Int) + 3 * (c : Int) + 310))], [vi (19 * (i : Int) + 3 * (c : Int) + 311), vr 137]) (MS I4 J5 cc ss) _
        refine ev_n (fr' := (138, [some (vr 135), some (vi (19 * (i : Int) + 309)), some (vl (wdF tx n a)), none, some (vi (t : Int)), some (vi (19 * (i : Int) + 3 * (c : Int) + 310))], [vi 48, vr 135, vi (19 * (i : Int) + 3 * (c : Int) + 311), vr 137])) (S' := MS I4 J5 cc ss) 2 rfl ?_
        refine ev_cz rfl rfl rfl ⟨Nat.le_of_ble_eq_true rfl, Nat.le_of_ble_eq_true rfl⟩ (sp_takesSigned X _ _ _ _ hR (spF tx n (leF tx n (spF tx n (leF tx n a)))) hK hw0 48 (by omega)) (fun z1 I7 J8 q9 => ?_)
        obtain ⟨hO9, hz9⟩ := q9
        rw [pnF_sp] at hz9
        rcases hr1 : pnF tx n (-48) 48 ((leF tx n (spF tx n (leF tx n a)))) with ⟨e1, v1⟩ | ⟨c1, s1⟩ <;> rw [hr1] at hz9
        · obtain ⟨hzv, hK, hw0, hen1⟩ := hz9
          subst z1
          have hR := hR.l hO9
          have hpr1 := pnF_rng hr1
          have hO := hO.trans hO9.f
          have hd := (hO9.2.2 137 (by decide)).trans hd
          show Ev X k_X9_readsUse (141, [some (vr 135), some (vi (19 * (i : Int) + 309)), some (vl (wdF tx n a)), none, some (vi (t : Int)), some (vi (19 * (i : Int) + 3 * (c : Int) + 310))], [vi v1, vi (19 * (i : Int) + 3 * (c : Int) + 311), vr 137]) (MS I7 J8 cc ss) _
          refine ev_n (fr' := (142, [some (vr 135), some (vi (19 * (i : Int) + 309)), some (vl (wdF tx n a)), none, some (vi (t : Int)), some (vi (19 * (i : Int) + 3 * (c : Int) + 310))], [vl v1, vi (19 * (i : Int) + 3 * (c : Int) + 311), vr 137])) (S' := MS I7 J8 cc ss) 1 rfl ?_
          refine ev_lasN (j := 19 * i + 3 * c + 311) rfl rfl (by omega) (by omega) ?_
          show Ev X k_X9_readsUse (143, [some (vr 135), some (vi (19 * (i : Int) + 309)), some (vl (wdF tx n a)), none, some (vi (t : Int)), some (vi (19 * (i : Int) + 3 * (c : Int) + 310))], []) (MS I7 (up2 J8 137 (19 * i + 3 * c + 311) v1) cc ss) _
          have hd : (up2 J8 137 (19 * i + 3 * c + 311) v1) 137 = _ := up2_u1 hd
          have hO := hO.j (k := 19 * i + 3 * c + 311) (v := v1)
          have hK := hK.j (k := 19 * i + 3 * c + 311) (v := v1)
          refine ev_n (fr' := (150, [some (vr 135), some (vi (19 * (i : Int) + 309)), some (vl (wdF tx n a)), none, some (vi (t : Int)), some (vi (19 * (i : Int) + 3 * (c : Int) + 310))], [vi 2, vi (19 * (i : Int) + 3 * (c : Int) + 310), vr 137])) (S' := MS I7 (up2 J8 137 (19 * i + 3 * c + 311) v1) cc ss) 4 rfl ?_
          refine ev_add (z := 19 * (i : Int) + 3 * (c : Int) + 312) rfl (by omega) (by omega) (by omega) ?_
          show Ev X k_X9_readsUse (151, [some (vr 135), some (vi (19 * (i : Int) + 309)), some (vl (wdF tx n a)), none, some (vi (t : Int)), some (vi (19 * (i : Int) + 3 * (c : Int) + 310))], [vi (19 * (i : Int) + 3 * (c : Int) + 312), vr 137]) (MS I7 (up2 J8 137 (19 * i + 3 * c + 311) v1) cc ss) _
          refine ev_n (fr' := (154, [some (vr 135), some (vi (19 * (i : Int) + 309)), some (vl (wdF tx n a)), none, some (vi (t : Int)), some (vi (19 * (i : Int) + 3 * (c : Int) + 310))], [vi 48, vr 135, vi (19 * (i : Int) + 3 * (c : Int) + 312), vr 137])) (S' := MS I7 (up2 J8 137 (19 * i + 3 * c + 311) v1) cc ss) 2 rfl ?_
          refine ev_cz rfl rfl rfl ⟨Nat.le_of_ble_eq_true rfl, Nat.le_of_ble_eq_true rfl⟩ (sp_takesSigned X _ _ _ _ hR (spF tx n e1) hK hw0 48 (by omega)) (fun z2 I10 J11 q12 => ?_)
          obtain ⟨hO9, hz9⟩ := q12
          rw [pnF_sp] at hz9
          rcases hr2 : pnF tx n (-48) 48 e1 with ⟨e2, v2⟩ | ⟨c2, s2⟩ <;> rw [hr2] at hz9
          · obtain ⟨hzv, hK, hw0, hen2⟩ := hz9
            subst z2
            have hR := hR.l hO9
            have hpr2 := pnF_rng hr2
            have hO := hO.trans hO9.f
            have hd := (hO9.2.2 137 (by decide)).trans hd
            show Ev X k_X9_readsUse (157, [some (vr 135), some (vi (19 * (i : Int) + 309)), some (vl (wdF tx n a)), none, some (vi (t : Int)), some (vi (19 * (i : Int) + 3 * (c : Int) + 310))], [vi v2, vi (19 * (i : Int) + 3 * (c : Int) + 312), vr 137]) (MS I10 J11 cc ss) _
            refine ev_n (fr' := (158, [some (vr 135), some (vi (19 * (i : Int) + 309)), some (vl (wdF tx n a)), none, some (vi (t : Int)), some (vi (19 * (i : Int) + 3 * (c : Int) + 310))], [vl v2, vi (19 * (i : Int) + 3 * (c : Int) + 312), vr 137])) (S' := MS I10 J11 cc ss) 1 rfl ?_
            refine ev_lasN (j := 19 * i + 3 * c + 312) rfl rfl (by omega) (by omega) ?_
            show Ev X k_X9_readsUse (159, [some (vr 135), some (vi (19 * (i : Int) + 309)), some (vl (wdF tx n a)), none, some (vi (t : Int)), some (vi (19 * (i : Int) + 3 * (c : Int) + 310))], []) (MS I10 (up2 J11 137 (19 * i + 3 * c + 312) v2) cc ss) _
            have hd : (up2 J11 137 (19 * i + 3 * c + 312) v2) 137 = _ := up2_u1 hd
            have hO := hO.j (k := 19 * i + 3 * c + 312) (v := v2)
            have hK := hK.j (k := 19 * i + 3 * c + 312) (v := v2)
            refine ev_n (fr' := (165, [some (vr 135), some (vi (19 * (i : Int) + 309)), some (vl (wdF tx n a)), none, some (vi (t : Int)), some (vi (19 * (i : Int) + 3 * (c : Int) + 310))], [vi (19 * (i : Int) + 309), vr 137, vi (19 * (i : Int) + 309), vr 137])) (S' := MS I10 (up2 J11 137 (19 * i + 3 * c + 312) v2) cc ss) 4 rfl ?_
            refine ev_laN (j := 19 * i + 309) (z := (c : Int)) rfl rfl (by omega) (by omega) ((congrFun hd _).trans (by first | exact hc | (rw [upd1_ne _ _ _ (by omega)]; exact hc) | (rw [upd1_ne _ _ _ (by omega), upd1_ne _ _ _ (by omega)]; exact hc) | (rw [upd1_ne _ _ _ (by omega), upd1_ne _ _ _ (by omega), upd1_ne _ _ _ (by omega)]; exact hc))) ?_
            show Ev X k_X9_readsUse (166, [some (vr 135), some (vi (19 * (i : Int) + 309)), some (vl (wdF tx n a)), none, some (vi (t : Int)), some (vi (19 * (i : Int) + 3 * (c : Int) + 310))], [vl (c : Int), vi (19 * (i : Int) + 309), vr 137]) (MS I10 (up2 J11 137 (19 * i + 3 * c + 312) v2) cc ss) _
            refine ev_n (fr' := (167, [some (vr 135), some (vi (19 * (i : Int) + 309)), some (vl (wdF tx n a)), none, some (vi (t : Int)), some (vi (19 * (i : Int) + 3 * (c : Int) + 310))], [vl 1, vl (c : Int), vi (19 * (i : Int) + 309), vr 137])) (S' := MS I10 (up2 J11 137 (19 * i + 3 * c + 312) v2) cc ss) 1 rfl ?_
            refine ev_ladd (z := (c : Int) + 1) rfl (by omega) (by omega) (by omega) ?_
            show Ev X k_X9_readsUse (168, [some (vr 135), some (vi (19 * (i : Int) + 309)), some (vl (wdF tx n a)), none, some (vi (t : Int)), some (vi (19 * (i : Int) + 3 * (c : Int) + 310))], [vl ((c : Int) + 1), vi (19 * (i : Int) + 309), vr 137]) (MS I10 (up2 J11 137 (19 * i + 3 * c + 312) v2) cc ss) _
            refine ev_lasN (j := 19 * i + 309) rfl rfl (by omega) (by omega) ?_
            show Ev X k_X9_readsUse (169, [some (vr 135), some (vi (19 * (i : Int) + 309)), some (vl (wdF tx n a)), none, some (vi (t : Int)), some (vi (19 * (i : Int) + 3 * (c : Int) + 310))], []) (MS I10 (up2 (up2 J11 137 (19 * i + 3 * c + 312) v2) 137 (19 * i + 309) ((c : Int) + 1)) cc ss) _
            have hd : (up2 (up2 J11 137 (19 * i + 3 * c + 312) v2) 137 (19 * i + 309) ((c : Int) + 1)) 137 = _ := up2_u1 hd
            have hO := hO.j (k := 19 * i + 309) (v := ((c : Int) + 1))
            have hK := hK.j (k := 19 * i + 309) (v := ((c : Int) + 1))
            refine ev_r rfl rfl rfl ?_
            have hnf : ¬ paF tx n d a = -1 := by omega
            have hX0 : pUs false tx n d a = pU2 tx n (paF tx n d a) (leF tx n (spF tx n (leF tx n a))) := by unfold pUs; rw [if_neg hz0, if_neg hnf, if_pos (kd_0.mpr (wd_kd h52).1), if_pos (by assumption)]
            have hX : pU2 tx n (paF tx n d a) (leF tx n (spF tx n (leF tx n a))) = .inl (e2, vUF (paF tx n d a) v1 v2) := by unfold pU2; rw [hr1]; simp only [hr2]
            rw [hX0, hX, hfd]
            rw [show 19 * i + 3 * c + 311 = 19 * i + 3 * c + 310 + 1 by omega, show 19 * i + 3 * c + 312 = 19 * i + 3 * c + 310 + 2 by omega, wrU_3] at hd
            exact ⟨_, _, rfl, rfl, hO, hK, hw0, hd, hen2⟩
          · obtain ⟨hzv, hE⟩ := hz9
            subst z2
            have hR := hR.l hO9
            have hwE := hE.ne
            have hO := hO.trans hO9.f
            have hd := (hO9.2.2 137 (by decide)).trans hd
            show Ev X k_X9_readsUse (157, [some (vr 135), some (vi (19 * (i : Int) + 309)), some (vl (wdF tx n a)), none, some (vi (t : Int)), some (vi (19 * (i : Int) + 3 * (c : Int) + 310))], [vi 0, vi (19 * (i : Int) + 3 * (c : Int) + 312), vr 137]) (MS I10 J11 cc ss) _
            refine ev_n (fr' := (158, [some (vr 135), some (vi (19 * (i : Int) + 309)), some (vl (wdF tx n a)), none, some (vi (t : Int)), some (vi (19 * (i : Int) + 3 * (c : Int) + 310))], [vl 0, vi (19 * (i : Int) + 3 * (c : Int) + 312), vr 137])) (S' := MS I10 J11 cc ss) 1 rfl ?_
            refine ev_lasN (j := 19 * i + 3 * c + 312) rfl rfl (by omega) (by omega) ?_
            show Ev X k_X9_readsUse (159, [some (vr 135), some (vi (19 * (i : Int) + 309)), some (vl (wdF tx n a)), none, some (vi (t : Int)), some (vi (19 * (i : Int) + 3 * (c : Int) + 310))], []) (MS I10 (up2 J11 137 (19 * i + 3 * c + 312) 0) cc ss) _
            have hd : (up2 J11 137 (19 * i + 3 * c + 312) 0) 137 = _ := up2_u1 hd
            have hO := hO.j (k := 19 * i + 3 * c + 312) (v := 0)
            refine ev_n (fr' := (165, [some (vr 135), some (vi (19 * (i : Int) + 309)), some (vl (wdF tx n a)), none, some (vi (t : Int)), some (vi (19 * (i : Int) + 3 * (c : Int) + 310))], [vi (19 * (i : Int) + 309), vr 137, vi (19 * (i : Int) + 309), vr 137])) (S' := MS I10 (up2 J11 137 (19 * i + 3 * c + 312) 0) cc ss) 4 rfl ?_
            refine ev_laN (j := 19 * i + 309) (z := (c : Int)) rfl rfl (by omega) (by omega) ((congrFun hd _).trans (by first | exact hc | (rw [upd1_ne _ _ _ (by omega)]; exact hc) | (rw [upd1_ne _ _ _ (by omega), upd1_ne _ _ _ (by omega)]; exact hc) | (rw [upd1_ne _ _ _ (by omega), upd1_ne _ _ _ (by omega), upd1_ne _ _ _ (by omega)]; exact hc))) ?_
            show Ev X k_X9_readsUse (166, [some (vr 135), some (vi (19 * (i : Int) + 309)), some (vl (wdF tx n a)), none, some (vi (t : Int)), some (vi (19 * (i : Int) + 3 * (c : Int) + 310))], [vl (c : Int), vi (19 * (i : Int) + 309), vr 137]) (MS I10 (up2 J11 137 (19 * i + 3 * c + 312) 0) cc ss) _
            refine ev_n (fr' := (167, [some (vr 135), some (vi (19 * (i : Int) + 309)), some (vl (wdF tx n a)), none, some (vi (t : Int)), some (vi (19 * (i : Int) + 3 * (c : Int) + 310))], [vl 1, vl (c : Int), vi (19 * (i : Int) + 309), vr 137])) (S' := MS I10 (up2 J11 137 (19 * i + 3 * c + 312) 0) cc ss) 1 rfl ?_
            refine ev_ladd (z := (c : Int) + 1) rfl (by omega) (by omega) (by omega) ?_
            show Ev X k_X9_readsUse (168, [some (vr 135), some (vi (19 * (i : Int) + 309)), some (vl (wdF tx n a)), none, some (vi (t : Int)), some (vi (19 * (i : Int) + 3 * (c : Int) + 310))], [vl ((c : Int) + 1), vi (19 * (i : Int) + 309), vr 137]) (MS I10 (up2 J11 137 (19 * i + 3 * c + 312) 0) cc ss) _
            refine ev_lasN (j := 19 * i + 309) rfl rfl (by omega) (by omega) ?_
            show Ev X k_X9_readsUse (169, [some (vr 135), some (vi (19 * (i : Int) + 309)), some (vl (wdF tx n a)), none, some (vi (t : Int)), some (vi (19 * (i : Int) + 3 * (c : Int) + 310))], []) (MS I10 (up2 (up2 J11 137 (19 * i + 3 * c + 312) 0) 137 (19 * i + 309) ((c : Int) + 1)) cc ss) _
            have hd : (up2 (up2 J11 137 (19 * i + 3 * c + 312) 0) 137 (19 * i + 309) ((c : Int) + 1)) 137 = _ := up2_u1 hd
            have hO := hO.j (k := 19 * i + 309) (v := ((c : Int) + 1))
            refine ev_r rfl rfl rfl ?_
            have hnf : ¬ paF tx n d a = -1 := by omega
            have hX0 : pUs false tx n d a = pU2 tx n (paF tx n d a) (leF tx n (spF tx n (leF tx n a))) := by unfold pUs; rw [if_neg hz0, if_neg hnf, if_pos (kd_0.mpr (wd_kd h52).1), if_pos (by assumption)]
            have hX : pU2 tx n (paF tx n d a) (leF tx n (spF tx n (leF tx n a))) = .inr (c2, s2) := by unfold pU2; rw [hr1]; simp only [hr2]
            rw [hX0, hX]
            exact ⟨_, _, rfl, rfl, hO, hE⟩
        · obtain ⟨hzv, hE⟩ := hz9
          subst z1
          have hR := hR.l hO9
          have hwE := hE.ne
          have hO := hO.trans hO9.f
          have hd := (hO9.2.2 137 (by decide)).trans hd
          show Ev X k_X9_readsUse (141, [some (vr 135), some (vi (19 * (i : Int) + 309)), some (vl (wdF tx n a)), none, some (vi (t : Int)), some (vi (19 * (i : Int) + 3 * (c : Int) + 310))], [vi 0, vi (19 * (i : Int) + 3 * (c : Int) + 311), vr 137]) (MS I7 J8 cc ss) _
          refine ev_n (fr' := (142, [some (vr 135), some (vi (19 * (i : Int) + 309)), some (vl (wdF tx n a)), none, some (vi (t : Int)), some (vi (19 * (i : Int) + 3 * (c : Int) + 310))], [vl 0, vi (19 * (i : Int) + 3 * (c : Int) + 311), vr 137])) (S' := MS I7 J8 cc ss) 1 rfl ?_
          refine ev_lasN (j := 19 * i + 3 * c + 311) rfl rfl (by omega) (by omega) ?_
          show Ev X k_X9_readsUse (143, [some (vr 135), some (vi (19 * (i : Int) + 309)), some (vl (wdF tx n a)), none, some (vi (t : Int)), some (vi (19 * (i : Int) + 3 * (c : Int) + 310))], []) (MS I7 (up2 J8 137 (19 * i + 3 * c + 311) 0) cc ss) _
          have hd : (up2 J8 137 (19 * i + 3 * c + 311) 0) 137 = _ := up2_u1 hd
          have hO := hO.j (k := 19 * i + 3 * c + 311) (v := 0)
          refine ev_n (fr' := (150, [some (vr 135), some (vi (19 * (i : Int) + 309)), some (vl (wdF tx n a)), none, some (vi (t : Int)), some (vi (19 * (i : Int) + 3 * (c : Int) + 310))], [vi 2, vi (19 * (i : Int) + 3 * (c : Int) + 310), vr 137])) (S' := MS I7 (up2 J8 137 (19 * i + 3 * c + 311) 0) cc ss) 4 rfl ?_
          refine ev_add (z := 19 * (i : Int) + 3 * (c : Int) + 312) rfl (by omega) (by omega) (by omega) ?_
          show Ev X k_X9_readsUse (151, [some (vr 135), some (vi (19 * (i : Int) + 309)), some (vl (wdF tx n a)), none, some (vi (t : Int)), some (vi (19 * (i : Int) + 3 * (c : Int) + 310))], [vi (19 * (i : Int) + 3 * (c : Int) + 312), vr 137]) (MS I7 (up2 J8 137 (19 * i + 3 * c + 311) 0) cc ss) _
          refine ev_n (fr' := (154, [some (vr 135), some (vi (19 * (i : Int) + 309)), some (vl (wdF tx n a)), none, some (vi (t : Int)), some (vi (19 * (i : Int) + 3 * (c : Int) + 310))], [vi 48, vr 135, vi (19 * (i : Int) + 3 * (c : Int) + 312), vr 137])) (S' := MS I7 (up2 J8 137 (19 * i + 3 * c + 311) 0) cc ss) 2 rfl ?_
          refine ev_cv rfl rfl rfl ⟨Nat.le_of_ble_eq_true rfl, Nat.le_of_ble_eq_true rfl⟩ (sp_takesSignedE X _ _ _ _ 48 hwE) ?_
          show Ev X k_X9_readsUse (157, [some (vr 135), some (vi (19 * (i : Int) + 309)), some (vl (wdF tx n a)), none, some (vi (t : Int)), some (vi (19 * (i : Int) + 3 * (c : Int) + 310))], [vi 0, vi (19 * (i : Int) + 3 * (c : Int) + 312), vr 137]) (MS I7 (up2 J8 137 (19 * i + 3 * c + 311) 0) cc ss) _
          refine ev_n (fr' := (158, [some (vr 135), some (vi (19 * (i : Int) + 309)), some (vl (wdF tx n a)), none, some (vi (t : Int)), some (vi (19 * (i : Int) + 3 * (c : Int) + 310))], [vl 0, vi (19 * (i : Int) + 3 * (c : Int) + 312), vr 137])) (S' := MS I7 (up2 J8 137 (19 * i + 3 * c + 311) 0) cc ss) 1 rfl ?_
          refine ev_lasN (j := 19 * i + 3 * c + 312) rfl rfl (by omega) (by omega) ?_
          show Ev X k_X9_readsUse (159, [some (vr 135), some (vi (19 * (i : Int) + 309)), some (vl (wdF tx n a)), none, some (vi (t : Int)), some (vi (19 * (i : Int) + 3 * (c : Int) + 310))], []) (MS I7 (up2 (up2 J8 137 (19 * i + 3 * c + 311) 0) 137 (19 * i + 3 * c + 312) 0) cc ss) _
          have hd : (up2 (up2 J8 137 (19 * i + 3 * c + 311) 0) 137 (19 * i + 3 * c + 312) 0) 137 = _ := up2_u1 hd
          have hO := hO.j (k := 19 * i + 3 * c + 312) (v := 0)
          refine ev_n (fr' := (165, [some (vr 135), some (vi (19 * (i : Int) + 309)), some (vl (wdF tx n a)), none, some (vi (t : Int)), some (vi (19 * (i : Int) + 3 * (c : Int) + 310))], [vi (19 * (i : Int) + 309), vr 137, vi (19 * (i : Int) + 309), vr 137])) (S' := MS I7 (up2 (up2 J8 137 (19 * i + 3 * c + 311) 0) 137 (19 * i + 3 * c + 312) 0) cc ss) 4 rfl ?_
          refine ev_laN (j := 19 * i + 309) (z := (c : Int)) rfl rfl (by omega) (by omega) ((congrFun hd _).trans (by first | exact hc | (rw [upd1_ne _ _ _ (by omega)]; exact hc) | (rw [upd1_ne _ _ _ (by omega), upd1_ne _ _ _ (by omega)]; exact hc) | (rw [upd1_ne _ _ _ (by omega), upd1_ne _ _ _ (by omega), upd1_ne _ _ _ (by omega)]; exact hc))) ?_
          show Ev X k_X9_readsUse (166, [some (vr 135), some (vi (19 * (i : Int) + 309)), some (vl (wdF tx n a)), none, some (vi (t : Int)), some (vi (19 * (i : Int) + 3 * (c : Int) + 310))], [vl (c : Int), vi (19 * (i : Int) + 309), vr 137]) (MS I7 (up2 (up2 J8 137 (19 * i + 3 * c + 311) 0) 137 (19 * i + 3 * c + 312) 0) cc ss) _
          refine ev_n (fr' := (167, [some (vr 135), some (vi (19 * (i : Int) + 309)), some (vl (wdF tx n a)), none, some (vi (t : Int)), some (vi (19 * (i : Int) + 3 * (c : Int) + 310))], [vl 1, vl (c : Int), vi (19 * (i : Int) + 309), vr 137])) (S' := MS I7 (up2 (up2 J8 137 (19 * i + 3 * c + 311) 0) 137 (19 * i + 3 * c + 312) 0) cc ss) 1 rfl ?_
          refine ev_ladd (z := (c : Int) + 1) rfl (by omega) (by omega) (by omega) ?_
          show Ev X k_X9_readsUse (168, [some (vr 135), some (vi (19 * (i : Int) + 309)), some (vl (wdF tx n a)), none, some (vi (t : Int)), some (vi (19 * (i : Int) + 3 * (c : Int) + 310))], [vl ((c : Int) + 1), vi (19 * (i : Int) + 309), vr 137]) (MS I7 (up2 (up2 J8 137 (19 * i + 3 * c + 311) 0) 137 (19 * i + 3 * c + 312) 0) cc ss) _
          refine ev_lasN (j := 19 * i + 309) rfl rfl (by omega) (by omega) ?_
          show Ev X k_X9_readsUse (169, [some (vr 135), some (vi (19 * (i : Int) + 309)), some (vl (wdF tx n a)), none, some (vi (t : Int)), some (vi (19 * (i : Int) + 3 * (c : Int) + 310))], []) (MS I7 (up2 (up2 (up2 J8 137 (19 * i + 3 * c + 311) 0) 137 (19 * i + 3 * c + 312) 0) 137 (19 * i + 309) ((c : Int) + 1)) cc ss) _
          have hd : (up2 (up2 (up2 J8 137 (19 * i + 3 * c + 311) 0) 137 (19 * i + 3 * c + 312) 0) 137 (19 * i + 309) ((c : Int) + 1)) 137 = _ := up2_u1 hd
          have hO := hO.j (k := 19 * i + 309) (v := ((c : Int) + 1))
          refine ev_r rfl rfl rfl ?_
          have hnf : ¬ paF tx n d a = -1 := by omega
          have hX0 : pUs false tx n d a = pU2 tx n (paF tx n d a) (leF tx n (spF tx n (leF tx n a))) := by unfold pUs; rw [if_neg hz0, if_neg hnf, if_pos (kd_0.mpr (wd_kd h52).1), if_pos (by assumption)]
          have hX : pU2 tx n (paF tx n d a) (leF tx n (spF tx n (leF tx n a))) = .inr (c1, s1) := by unfold pU2; rw [hr1]
          rw [hX0, hX]
          exact ⟨_, _, rfl, rfl, hO, hE⟩
    · show Ev X k_X9_readsUse (58, [some (vr 135), some (vi (19 * (i : Int) + 309)), some (vl (wdF tx n a)), none, some (vi (t : Int)), none], []) (MS I J cc ss) _
      refine ev_n (fr' := (61, [some (vr 135), some (vi (19 * (i : Int) + 309)), some (vl (wdF tx n a)), none, some (vi (t : Int)), none], [vi (-3), vr 135])) (S' := MS I J cc ss) 2 rfl ?_
      refine ev_cv rfl rfl rfl ⟨Nat.le_of_ble_eq_true rfl, Nat.le_of_ble_eq_true rfl⟩ (sp_fails X _ _ _ _ (-3) a hw0 hK.2.2.1) ?_
      show Ev X k_X9_readsUse (64, [some (vr 135), some (vi (19 * (i : Int) + 309)), some (vl (wdF tx n a)), none, some (vi (t : Int)), none], []) (MS (up2 (up2 I 135 11 (-3)) 135 12 (a : Int)) J cc ss) _
      have hwE : (up2 (up2 I 135 11 (-3)) 135 12 (a : Int)) 135 11 ≠ 0 := EE.ne (EE.mk (by decide))
      refine ev_n (fr' := (77, [some (vr 135), some (vi (19 * (i : Int) + 309)), some (vl (wdF tx n a)), none, some (vi (t : Int)), none], [vi 0, vr 135])) (S' := MS (up2 (up2 I 135 11 (-3)) 135 12 (a : Int)) J cc ss) 5 rfl ?_
      refine ev_cv rfl rfl rfl ⟨Nat.le_of_ble_eq_true rfl, Nat.le_of_ble_eq_true rfl⟩ (sp_mustE0 X _ _ _ _ hwE) ?_
      show Ev X k_X9_readsUse (80, [some (vr 135), some (vi (19 * (i : Int) + 309)), some (vl (wdF tx n a)), none, some (vi (t : Int)), none], []) (MS (up2 (up2 I 135 11 (-3)) 135 12 (a : Int)) J cc ss) _
      refine ev_n (fr' := (87, [some (vr 135), some (vi (19 * (i : Int) + 309)), some (vl (wdF tx n a)), none, some (vi (t : Int)), none], [])) (S' := MS (up2 (up2 I 135 11 (-3)) 135 12 (a : Int)) J cc ss) 3 rfl ?_
      refine ev_r rfl rfl rfl ?_
      have hc9 : ∀ q, q < N → d (q + 461) ≠ wdF tx n a := by
        rcases hcase with h9 | h9
        · exact h9.2
        · exact absurd h9.1 (by omega)
      have hfd : paF tx n d a = -1 := fnd_miss (f := fun r => d (r + 461)) _ 0 (fun q _ h => hc9 q (by omega))
      have hX : pUs false tx n d a = .inr (-3, a) := by unfold pUs; rw [if_neg hz0, if_pos hfd]
      rw [hX]
      exact ⟨_, _, rfl, rfl, (onlyF.refl _ _).e, EE.mk (by decide)⟩
