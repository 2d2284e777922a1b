/-! THE REFERENCE reads shapes (printed by gen/g98b.py) -/
def onlyF (I I' J J' : F2) : Prop := (∀ a, a ≠ 135 → I' a = I a) ∧ (∀ f, f < 8 ∨ 12 < f → I' 135 f = I 135 f) ∧ ∀ a, a ≠ 135 → a ≠ 137 → J' a = J a
theorem onlyF.refl (I J : F2) : onlyF I I J J := ⟨fun _ _ => rfl, fun _ _ => rfl, fun _ _ _ => rfl⟩
theorem onlyF.trans {I I' I2 J J' J2 : F2} (h : onlyF I I' J J') (h2 : onlyF I' I2 J' J2) : onlyF I I2 J J2 := ⟨fun a ha => (h2.1 a ha).trans (h.1 a ha), fun f hf => (h2.2.1 f hf).trans (h.2.1 f hf), fun a ha hb => (h2.2.2 a ha hb).trans (h.2.2 a ha hb)⟩
theorem onlyL.f {I I' J J' : F2} (h : onlyL I I' J J') : onlyF I I' J J' := ⟨h.1, h.2.1, fun a ha _ => h.2.2 a ha⟩
theorem onlyF.j {I0 I J0 J : F2} {k : Nat} {v : Int} (h : onlyF I0 I J0 J) : onlyF I0 I J0 (up2 J 137 k v) := ⟨h.1, h.2.1, fun a ha hb => (up2_row _ _ _ _ hb).trans (h.2.2 a ha hb)⟩
theorem onlyF.e {I0 I J0 J : F2} {c : Int} {p : Int} (h : onlyF I0 I J0 J) : onlyF I0 (up2 (up2 I 135 11 c) 135 12 p) J0 J := ⟨fun a ha => (up2_row _ _ _ _ ha).trans ((up2_row _ _ _ _ ha).trans (h.1 a ha)), fun f hf => (up2_ne2 _ _ _ _ (by omega)).trans ((up2_ne2 _ _ _ _ (by omega)).trans (h.2.1 f hf)), h.2.2⟩
theorem TK.j {I J : F2} {t : F1} {n a k : Nat} {v : Int} (h : TK I J t n a) : TK I (up2 J 137 k v) t n a := ⟨h.1, h.2.1, h.2.2.1, h.2.2.2.1, h.2.2.2.2.1, fun q => by rw [up2_row _ _ _ _ (by decide)]; exact h.2.2.2.2.2 q⟩
def RS (I I' J J' : F2) (tx : F1) (n : Nat) (r : (Nat × F1) ⊕ (Int × Nat)) : Prop := onlyF I I' J J' ∧ match r with
  | .inl (e, d') => TK I' J' tx n (spF tx n e) ∧ I' 135 11 = 0 ∧ J' 137 = d' ∧ e ≤ n
  | .inr (c, s) => EE I' c s
def mapR (f : F1 → F1) : (Nat × F1) ⊕ (Int × Nat) → (Nat × F1) ⊕ (Int × Nat)
  | .inl (e, v) => .inl (e, f v)
  | .inr x => .inr x
theorem wrS_v0 {d : F1} {lo : Nat} {kd : Int} (hz : ∀ k, lo ≤ k → k < lo + 6 → d k = 0) : upd1 (upd1 d lo kd) (lo + 5) 0 = wrS d lo 6 (v0F kd) := by
  funext k
  unfold upd1 wrS v0F
  by_cases h : lo ≤ k ∧ k < lo + 6
  · rw [if_pos h]
    by_cases h5 : k = lo + 5
    · rw [if_pos h5, if_neg (by omega)]
    · rw [if_neg h5]
      by_cases h0 : k = lo
      · rw [if_pos h0, if_pos (by omega)]
      · rw [if_neg h0, if_neg (by omega)]; exact hz k h.1 h.2
  · rw [if_neg h, if_neg (by omega), if_neg (by omega)]
theorem pnF_tok {tx : F1} {n q : Nat} {lo hi : Int} (h : 0 ≤ lo) : pnF tx n lo hi q = pnU tx n false lo hi (spF tx n q) := by
  rw [← pnF_sp, pnF_a spF_idem (fun h2 => by omega)]
theorem lp_shpE (X : AX) (I J : Nat → Nat → Int) (cc ss : Nat) (t s c : Nat) (kd : Int) (hts : t < s) (hs : s + 5 < 477) (hc6 : c ≤ 6) (hc : J 137 t = (c : Int)) (hwE : I 135 11 ≠ 0) (w : Nat) (hw1 : 1 ≤ w) : Ev X k_X9_readsShape (98, [some (vr 135), some (vi (t : Int)), some (vi kd), some (vi (s : Int)), some (vi (w : Int))], []) (MS I J cc ss) (PV cc ss none (fun I' J' => I' = I ∧ ∀ a, a ≠ 137 → J' a = J a)) := by
  refine ev_n (fr' := (101, [some (vr 135), some (vi (t : Int)), some (vi kd), some (vi (s : Int)), some (vi (w : Int))], [vi kd, vi (w : Int)])) (S' := MS I J cc ss) 2 rfl ?_
  refine ev_if (c := .ne) (off := 7) rfl (by decide) (fun (g1 : kd ≠ 0) => ?_) (fun (g1 : ¬ (kd ≠ 0)) => ?_)
  · show Ev X k_X9_readsShape (108, [some (vr 135), some (vi (t : Int)), some (vi kd), some (vi (s : Int)), some (vi (w : Int))], [vi (w : Int)]) (MS I J cc ss) _
    refine ev_n (fr' := (110, [some (vr 135), some (vi (t : Int)), some (vi kd), some (vi (s : Int)), some (vi (w : Int))], [vi 6, vi (w : Int)])) (S' := MS I J cc ss) 1 rfl ?_
    refine ev_ic (c := .ge) (off := 35) rfl (by decide) (fun (g2 : 6 ≤ (w : Int)) => ?_) (fun (g2 : ¬ (6 ≤ (w : Int))) => ?_)
    · show Ev X k_X9_readsShape (145, [some (vr 135), some (vi (t : Int)), some (vi kd), some (vi (s : Int)), some (vi (w : Int))], []) (MS I J cc ss) _
      refine ev_n (fr' := (151, [some (vr 135), some (vi (t : Int)), some (vi kd), some (vi (s : Int)), some (vi (w : Int))], [vi (t : Int), vr 137, vi (t : Int), vr 137])) (S' := MS I J cc ss) 4 rfl ?_
      refine ev_laN (j := t) (z := (c : Int)) rfl rfl (by omega) (by omega) (hc) ?_
      show Ev X k_X9_readsShape (152, [some (vr 135), some (vi (t : Int)), some (vi kd), some (vi (s : Int)), some (vi (w : Int))], [vl (c : Int), vi (t : Int), vr 137]) (MS I J cc ss) _
      refine ev_n (fr' := (153, [some (vr 135), some (vi (t : Int)), some (vi kd), some (vi (s : Int)), some (vi (w : Int))], [vl 1, vl (c : Int), vi (t : Int), vr 137])) (S' := MS I J cc ss) 1 rfl ?_
      refine ev_ladd (z := (c : Int) + 1) rfl (by omega) (by omega) (by omega) ?_
      show Ev X k_X9_readsShape (154, [some (vr 135), some (vi (t : Int)), some (vi kd), some (vi (s : Int)), some (vi (w : Int))], [vl ((c : Int) + 1), vi (t : Int), vr 137]) (MS I J cc ss) _
      refine ev_lasN (j := t) rfl rfl (by omega) (by omega) ?_
      show Ev X k_X9_readsShape (155, [some (vr 135), some (vi (t : Int)), some (vi kd), some (vi (s : Int)), some (vi (w : Int))], []) (MS I (up2 J 137 t ((c : Int) + 1)) cc ss) _
      refine ev_r rfl rfl rfl ?_
      exact ⟨_, _, rfl, rfl, rfl, fun a ha => up2_row _ _ _ _ ha⟩
    · show Ev X k_X9_readsShape (113, [some (vr 135), some (vi (t : Int)), some (vi kd), some (vi (s : Int)), some (vi (w : Int))], []) (MS I J cc ss) _
      refine ev_n (fr' := (120, [some (vr 135), some (vi (t : Int)), some (vi kd), some (vi (s : Int)), some (vi (w : Int))], [vi (w : Int), vi (s : Int), vr 137])) (S' := MS I J cc ss) 4 rfl ?_
      refine ev_add (z := (s : Int) + (w : Int)) rfl (by omega) (by omega) (by omega) ?_
      show Ev X k_X9_readsShape (121, [some (vr 135), some (vi (t : Int)), some (vi kd), some (vi (s : Int)), some (vi (w : Int))], [vi ((s : Int) + (w : Int)), vr 137]) (MS I J cc ss) _
      refine ev_n (fr' := (125, [some (vr 135), some (vi (t : Int)), some (vi kd), some (vi (s : Int)), some (vi (w : Int))], [vi (w : Int), vi kd, vr 135, vi ((s : Int) + (w : Int)), vr 137])) (S' := MS I J cc ss) 3 rfl ?_
      refine ev_cv rfl rfl rfl ⟨Nat.le_of_ble_eq_true rfl, Nat.le_of_ble_eq_true rfl⟩ (sp_low X _ kd (w : Int) (by omega)) ?_
      show Ev X k_X9_readsShape (128, [some (vr 135), some (vi (t : Int)), some (vi kd), some (vi (s : Int)), some (vi (w : Int))], [vi (lowF kd (w : Int)), vr 135, vi ((s : Int) + (w : Int)), vr 137]) (MS I J cc ss) _
      refine ev_n (fr' := (131, [some (vr 135), some (vi (t : Int)), some (vi kd), some (vi (s : Int)), some (vi (w : Int))], [vi (w : Int), vi kd, vi (lowF kd (w : Int)), vr 135, vi ((s : Int) + (w : Int)), vr 137])) (S' := MS I J cc ss) 2 rfl ?_
      refine ev_cv rfl rfl rfl ⟨Nat.le_of_ble_eq_true rfl, Nat.le_of_ble_eq_true rfl⟩ (sp_high X _ kd (w : Int) (by omega)) ?_
      show Ev X k_X9_readsShape (134, [some (vr 135), some (vi (t : Int)), some (vi kd), some (vi (s : Int)), some (vi (w : Int))], [vi (highF kd (w : Int)), vi (lowF kd (w : Int)), vr 135, vi ((s : Int) + (w : Int)), vr 137]) (MS I J cc ss) _
      refine ev_cv rfl rfl rfl ⟨Nat.le_of_ble_eq_true rfl, Nat.le_of_ble_eq_true rfl⟩ (sp_takesE X _ _ _ _ (lowF kd (w : Int)) (highF kd (w : Int)) hwE) ?_
      show Ev X k_X9_readsShape (137, [some (vr 135), some (vi (t : Int)), some (vi kd), some (vi (s : Int)), some (vi (w : Int))], [vi 0, vi ((s : Int) + (w : Int)), vr 137]) (MS I J cc ss) _
      refine ev_n (fr' := (138, [some (vr 135), some (vi (t : Int)), some (vi kd), some (vi (s : Int)), some (vi (w : Int))], [vl 0, vi ((s : Int) + (w : Int)), vr 137])) (S' := MS I J cc ss) 1 rfl ?_
      refine ev_lasN (j := s + w) rfl rfl (by omega) (by omega) ?_
      show Ev X k_X9_readsShape (139, [some (vr 135), some (vi (t : Int)), some (vi kd), some (vi (s : Int)), some (vi (w : Int))], []) (MS I (up2 J 137 (s + w) 0) cc ss) _
      refine ev_inc (z := (w : Int) + 1) rfl rfl (by omega) (by omega) (by omega) rfl ?_
      show Ev X k_X9_readsShape (142, [some (vr 135), some (vi (t : Int)), some (vi kd), some (vi (s : Int)), some (vi ((w : Int) + 1))], []) (MS I (up2 J 137 (s + w) 0) cc ss) _
      refine ev_n (fr' := (98, [some (vr 135), some (vi (t : Int)), some (vi kd), some (vi (s : Int)), some (vi ((w : Int) + 1))], [])) (S' := MS I (up2 J 137 (s + w) 0) cc ss) 1 rfl ?_
      refine (lp_shpE X _ _ cc ss t s c kd hts hs hc6 ((up2_ne2 _ _ _ _ (by omega)).trans hc) hwE (w + 1) (by omega)).mono ?_
      rintro o T ⟨I', J', rfl, rfl, h1, h2⟩
      exact ⟨_, _, rfl, rfl, h1, fun a ha => (h2 a ha).trans (up2_row _ _ _ _ ha)⟩
  · show Ev X k_X9_readsShape (104, [some (vr 135), some (vi (t : Int)), some (vi kd), some (vi (s : Int)), some (vi (w : Int))], [vi (w : Int)]) (MS I J cc ss) _
    refine ev_n (fr' := (110, [some (vr 135), some (vi (t : Int)), some (vi kd), some (vi (s : Int)), some (vi (w : Int))], [vi 5, vi (w : Int)])) (S' := MS I J cc ss) 2 rfl ?_
    refine ev_ic (c := .ge) (off := 35) rfl (by decide) (fun (g3 : 5 ≤ (w : Int)) => ?_) (fun (g3 : ¬ (5 ≤ (w : Int))) => ?_)
    · show Ev X k_X9_readsShape (145, [some (vr 135), some (vi (t : Int)), some (vi kd), some (vi (s : Int)), some (vi (w : Int))], []) (MS I J cc ss) _
      refine ev_n (fr' := (151, [some (vr 135), some (vi (t : Int)), some (vi kd), some (vi (s : Int)), some (vi (w : Int))], [vi (t : Int), vr 137, vi (t : Int), vr 137])) (S' := MS I J cc ss) 4 rfl ?_
      refine ev_laN (j := t) (z := (c : Int)) rfl rfl (by omega) (by omega) (hc) ?_
      show Ev X k_X9_readsShape (152, [some (vr 135), some (vi (t : Int)), some (vi kd), some (vi (s : Int)), some (vi (w : Int))], [vl (c : Int), vi (t : Int), vr 137]) (MS I J cc ss) _
      refine ev_n (fr' := (153, [some (vr 135), some (vi (t : Int)), some (vi kd), some (vi (s : Int)), some (vi (w : Int))], [vl 1, vl (c : Int), vi (t : Int), vr 137])) (S' := MS I J cc ss) 1 rfl ?_
      refine ev_ladd (z := (c : Int) + 1) rfl (by omega) (by omega) (by omega) ?_
      show Ev X k_X9_readsShape (154, [some (vr 135), some (vi (t : Int)), some (vi kd), some (vi (s : Int)), some (vi (w : Int))], [vl ((c : Int) + 1), vi (t : Int), vr 137]) (MS I J cc ss) _
      refine ev_lasN (j := t) rfl rfl (by omega) (by omega) ?_
      show Ev X k_X9_readsShape (155, [some (vr 135), some (vi (t : Int)), some (vi kd), some (vi (s : Int)), some (vi (w : Int))], []) (MS I (up2 J 137 t ((c : Int) + 1)) cc ss) _
      refine ev_r rfl rfl rfl ?_
      exact ⟨_, _, rfl, rfl, rfl, fun a ha => up2_row _ _ _ _ ha⟩
    · show Ev X k_X9_readsShape (113, [some (vr 135), some (vi (t : Int)), some (vi kd), some (vi (s : Int)), some (vi (w : Int))], []) (MS I J cc ss) _
      refine ev_n (fr' := (120, [some (vr 135), some (vi (t : Int)), some (vi kd), some (vi (s : Int)), some (vi (w : Int))], [vi (w : Int), vi (s : Int), vr 137])) (S' := MS I J cc ss) 4 rfl ?_
      refine ev_add (z := (s : Int) + (w : Int)) rfl (by omega) (by omega) (by omega) ?_
      show Ev X k_X9_readsShape (121, [some (vr 135), some (vi (t : Int)), some (vi kd), some (vi (s : Int)), some (vi (w : Int))], [vi ((s : Int) + (w : Int)), vr 137]) (MS I J cc ss) _
      refine ev_n (fr' := (125, [some (vr 135), some (vi (t : Int)), some (vi kd), some (vi (s : Int)), some (vi (w : Int))], [vi (w : Int), vi kd, vr 135, vi ((s : Int) + (w : Int)), vr 137])) (S' := MS I J cc ss) 3 rfl ?_
      refine ev_cv rfl rfl rfl ⟨Nat.le_of_ble_eq_true rfl, Nat.le_of_ble_eq_true rfl⟩ (sp_low X _ kd (w : Int) (by omega)) ?_
      show Ev X k_X9_readsShape (128, [some (vr 135), some (vi (t : Int)), some (vi kd), some (vi (s : Int)), some (vi (w : Int))], [vi (lowF kd (w : Int)), vr 135, vi ((s : Int) + (w : Int)), vr 137]) (MS I J cc ss) _
      refine ev_n (fr' := (131, [some (vr 135), some (vi (t : Int)), some (vi kd), some (vi (s : Int)), some (vi (w : Int))], [vi (w : Int), vi kd, vi (lowF kd (w : Int)), vr 135, vi ((s : Int) + (w : Int)), vr 137])) (S' := MS I J cc ss) 2 rfl ?_
      refine ev_cv rfl rfl rfl ⟨Nat.le_of_ble_eq_true rfl, Nat.le_of_ble_eq_true rfl⟩ (sp_high X _ kd (w : Int) (by omega)) ?_
      show Ev X k_X9_readsShape (134, [some (vr 135), some (vi (t : Int)), some (vi kd), some (vi (s : Int)), some (vi (w : Int))], [vi (highF kd (w : Int)), vi (lowF kd (w : Int)), vr 135, vi ((s : Int) + (w : Int)), vr 137]) (MS I J cc ss) _
      refine ev_cv rfl rfl rfl ⟨Nat.le_of_ble_eq_true rfl, Nat.le_of_ble_eq_true rfl⟩ (sp_takesE X _ _ _ _ (lowF kd (w : Int)) (highF kd (w : Int)) hwE) ?_
      show Ev X k_X9_readsShape (137, [some (vr 135), some (vi (t : Int)), some (vi kd), some (vi (s : Int)), some (vi (w : Int))], [vi 0, vi ((s : Int) + (w : Int)), vr 137]) (MS I J cc ss) _
      refine ev_n (fr' := (138, [some (vr 135), some (vi (t : Int)), some (vi kd), some (vi (s : Int)), some (vi (w : Int))], [vl 0, vi ((s : Int) + (w : Int)), vr 137])) (S' := MS I J cc ss) 1 rfl ?_
      refine ev_lasN (j := s + w) rfl rfl (by omega) (by omega) ?_
      show Ev X k_X9_readsShape (139, [some (vr 135), some (vi (t : Int)), some (vi kd), some (vi (s : Int)), some (vi (w : Int))], []) (MS I (up2 J 137 (s + w) 0) cc ss) _
      refine ev_inc (z := (w : Int) + 1) rfl rfl (by omega) (by omega) (by omega) rfl ?_
      show Ev X k_X9_readsShape (142, [some (vr 135), some (vi (t : Int)), some (vi kd), some (vi (s : Int)), some (vi ((w : Int) + 1))], []) (MS I (up2 J 137 (s + w) 0) cc ss) _
      refine ev_n (fr' := (98, [some (vr 135), some (vi (t : Int)), some (vi kd), some (vi (s : Int)), some (vi ((w : Int) + 1))], [])) (S' := MS I (up2 J 137 (s + w) 0) cc ss) 1 rfl ?_
      refine (lp_shpE X _ _ cc ss t s c kd hts hs hc6 ((up2_ne2 _ _ _ _ (by omega)).trans hc) hwE (w + 1) (by omega)).mono ?_
      rintro o T ⟨I', J', rfl, rfl, h1, h2⟩
      exact ⟨_, _, rfl, rfl, h1, fun a ha => (h2 a ha).trans (up2_row _ _ _ _ ha)⟩
termination_by 7 - w
decreasing_by all_goals omega
theorem lp_shpR (X : AX) (I J : Nat → Nat → Int) (cc ss : Nat) (I0 J0 : F2) {tx : F1} {n : Nat} (hR : RB I tx n) (p c : Nat) (kd : Int) (hp8 : p < 8) (hc6 : c < 6) {d : F1} (hc : d (37 * p + 12) = (c : Int)) (w m : Nat) {v : F1} (hkd : 0 ≤ kd ∧ kd ≤ 2) (hw1 : 1 ≤ w) (hlim : (kd = 0 ∧ w + m = 5) ∨ (kd ≠ 0 ∧ w + m = 6)) (q : Nat) (hK : TK I J tx n (spF tx n q)) (hw0 : I 135 11 = 0) (hqn : q ≤ n) (hd : J 137 = wrS d (37 * p + 6 * c + 13) 6 v) (hO : onlyF I0 I J0 J) : Ev X k_X9_readsShape (98, [some (vr 135), some (vi (37 * (p : Int) + 12)), some (vi kd), some (vi (37 * (p : Int) + 6 * (c : Int) + 13)), some (vi (w : Int))], []) (MS I J cc ss) (PV cc ss none (fun I' J' => RS I0 I' J0 J' tx n (mapR (puS d p c) (pNs tx n kd m w q v)))) := by
  have hlr := lowF_rng kd w
  have hhr := highF_rng kd w
  refine ev_n (fr' := (101, [some (vr 135), some (vi (37 * (p : Int) + 12)), some (vi kd), some (vi (37 * (p : Int) + 6 * (c : Int) + 13)), some (vi (w : Int))], [vi kd, vi (w : Int)])) (S' := MS I J cc ss) 2 rfl ?_
  refine ev_if (c := .ne) (off := 7) rfl (by decide) (fun (g1 : kd ≠ 0) => ?_) (fun (g1 : ¬ (kd ≠ 0)) => ?_)
  · show Ev X k_X9_readsShape (108, [some (vr 135), some (vi (37 * (p : Int) + 12)), some (vi kd), some (vi (37 * (p : Int) + 6 * (c : Int) + 13)), some (vi (w : Int))], [vi (w : Int)]) (MS I J cc ss) _
    refine ev_n (fr' := (110, [some (vr 135), some (vi (37 * (p : Int) + 12)), some (vi kd), some (vi (37 * (p : Int) + 6 * (c : Int) + 13)), some (vi (w : Int))], [vi 6, vi (w : Int)])) (S' := MS I J cc ss) 1 rfl ?_
    refine ev_ic (c := .ge) (off := 35) rfl (by decide) (fun (g2 : 6 ≤ (w : Int)) => ?_) (fun (g2 : ¬ (6 ≤ (w : Int))) => ?_)
    · show Ev X k_X9_readsShape (145, [some (vr 135), some (vi (37 * (p : Int) + 12)), some (vi kd), some (vi (37 * (p : Int) + 6 * (c : Int) + 13)), some (vi (w : Int))], []) (MS I J cc ss) _
      refine ev_n (fr' := (151, [some (vr 135), some (vi (37 * (p : Int) + 12)), some (vi kd), some (vi (37 * (p : Int) + 6 * (c : Int) + 13)), some (vi (w : Int))], [vi (37 * (p : Int) + 12), vr 137, vi (37 * (p : Int) + 12), vr 137])) (S' := MS I J cc ss) 4 rfl ?_
      refine ev_laN (j := 37 * p + 12) (z := (c : Int)) rfl rfl (by omega) (by omega) ((congrFun hd _).trans ((wrS_out (by omega)).trans hc)) ?_
      show Ev X k_X9_readsShape (152, [some (vr 135), some (vi (37 * (p : Int) + 12)), some (vi kd), some (vi (37 * (p : Int) + 6 * (c : Int) + 13)), some (vi (w : Int))], [vl (c : Int), vi (37 * (p : Int) + 12), vr 137]) (MS I J cc ss) _
      refine ev_n (fr' := (153, [some (vr 135), some (vi (37 * (p : Int) + 12)), some (vi kd), some (vi (37 * (p : Int) + 6 * (c : Int) + 13)), some (vi (w : Int))], [vl 1, vl (c : Int), vi (37 * (p : Int) + 12), vr 137])) (S' := MS I J cc ss) 1 rfl ?_
      refine ev_ladd (z := (c : Int) + 1) rfl (by omega) (by omega) (by omega) ?_
      show Ev X k_X9_readsShape (154, [some (vr 135), some (vi (37 * (p : Int) + 12)), some (vi kd), some (vi (37 * (p : Int) + 6 * (c : Int) + 13)), some (vi (w : Int))], [vl ((c : Int) + 1), vi (37 * (p : Int) + 12), vr 137]) (MS I J cc ss) _
      refine ev_lasN (j := 37 * p + 12) rfl rfl (by omega) (by omega) ?_
      show Ev X k_X9_readsShape (155, [some (vr 135), some (vi (37 * (p : Int) + 12)), some (vi kd), some (vi (37 * (p : Int) + 6 * (c : Int) + 13)), some (vi (w : Int))], []) (MS I (up2 J 137 (37 * p + 12) ((c : Int) + 1)) cc ss) _
      refine ev_r rfl rfl rfl ?_
      have e0 : m = 0 := by omega
      subst e0
      exact ⟨_, _, rfl, rfl, hO.j, hK.j, hw0, up2_u1 hd, hqn⟩
    · show Ev X k_X9_readsShape (113, [some (vr 135), some (vi (37 * (p : Int) + 12)), some (vi kd), some (vi (37 * (p : Int) + 6 * (c : Int) + 13)), some (vi (w : Int))], []) (MS I J cc ss) _
      refine ev_n (fr' := (120, [some (vr 135), some (vi (37 * (p : Int) + 12)), some (vi kd), some (vi (37 * (p : Int) + 6 * (c : Int) + 13)), some (vi (w : Int))], [vi (w : Int), vi (37 * (p : Int) + 6 * (c : Int) + 13), vr 137])) (S' := MS I J cc ss) 4 rfl ?_
      refine ev_add (z := 37 * (p : Int) + 6 * (c : Int) + (w : Int) + 13) rfl (by omega) (by omega) (by omega) ?_
      show Ev X k_X9_readsShape (121, [some (vr 135), some (vi (37 * (p : Int) + 12)), some (vi kd), some (vi (37 * (p : Int) + 6 * (c : Int) + 13)), some (vi (w : Int))], [vi (37 * (p : Int) + 6 * (c : Int) + (w : Int) + 13), vr 137]) (MS I J cc ss) _
      refine ev_n (fr' := (125, [some (vr 135), some (vi (37 * (p : Int) + 12)), some (vi kd), some (vi (37 * (p : Int) + 6 * (c : Int) + 13)), some (vi (w : Int))], [vi (w : Int), vi kd, vr 135, vi (37 * (p : Int) + 6 * (c : Int) + (w : Int) + 13), vr 137])) (S' := MS I J cc ss) 3 rfl ?_
      refine ev_cv rfl rfl rfl ⟨Nat.le_of_ble_eq_true rfl, Nat.le_of_ble_eq_true rfl⟩ (sp_low X _ kd (w : Int) (by omega)) ?_
      show Ev X k_X9_readsShape (128, [some (vr 135), some (vi (37 * (p : Int) + 12)), some (vi kd), some (vi (37 * (p : Int) + 6 * (c : Int) + 13)), some (vi (w : Int))], [vi (lowF kd (w : Int)), vr 135, vi (37 * (p : Int) + 6 * (c : Int) + (w : Int) + 13), vr 137]) (MS I J cc ss) _
      refine ev_n (fr' := (131, [some (vr 135), some (vi (37 * (p : Int) + 12)), some (vi kd), some (vi (37 * (p : Int) + 6 * (c : Int) + 13)), some (vi (w : Int))], [vi (w : Int), vi kd, vi (lowF kd (w : Int)), vr 135, vi (37 * (p : Int) + 6 * (c : Int) + (w : Int) + 13), vr 137])) (S' := MS I J cc ss) 2 rfl ?_
      refine ev_cv rfl rfl rfl ⟨Nat.le_of_ble_eq_true rfl, Nat.le_of_ble_eq_true rfl⟩ (sp_high X _ kd (w : Int) (by omega)) ?_
      show Ev X k_X9_readsShape (134, [some (vr 135), some (vi (37 * (p : Int) + 12)), some (vi kd), some (vi (37 * (p : Int) + 6 * (c : Int) + 13)), some (vi (w : Int))], [vi (highF kd (w : Int)), vi (lowF kd (w : Int)), vr 135, vi (37 * (p : Int) + 6 * (c : Int) + (w : Int) + 13), vr 137]) (MS I J cc ss) _
      refine ev_cz rfl rfl rfl ⟨Nat.le_of_ble_eq_true rfl, Nat.le_of_ble_eq_true rfl⟩ (sp_takes X _ _ _ _ hR (spF tx n q) hK hw0 (lowF kd (w : Int)) (highF kd (w : Int)) (by omega)) (fun z1 I1 J2 q3 => ?_)
      obtain ⟨hO9, hz9⟩ := q3
      rcases hr1 : pnU tx n false (lowF kd (w : Int)) (highF kd (w : Int)) (spF tx n q) with ⟨e1, v1⟩ | ⟨c1, s1⟩ <;> rw [hr1] at hz9
      · obtain ⟨hzv, hK, hw0, hen1⟩ := hz9
        subst z1
        have hR := hR.l hO9
        have hpn1 := pnU_ok hr1
        have hO := hO.trans hO9.f
        have hpF : pnF tx n (lowF kd w) (highF kd w) q = .inl (e1, v1) := (pnF_tok (by omega)).trans hr1
        have hd := (hO9.2.2 137 (by decide)).trans hd
        show Ev X k_X9_readsShape (137, [some (vr 135), some (vi (37 * (p : Int) + 12)), some (vi kd), some (vi (37 * (p : Int) + 6 * (c : Int) + 13)), some (vi (w : Int))], [vi v1, vi (37 * (p : Int) + 6 * (c : Int) + (w : Int) + 13), vr 137]) (MS I1 J2 cc ss) _
        refine ev_n (fr' := (138, [some (vr 135), some (vi (37 * (p : Int) + 12)), some (vi kd), some (vi (37 * (p : Int) + 6 * (c : Int) + 13)), some (vi (w : Int))], [vl v1, vi (37 * (p : Int) + 6 * (c : Int) + (w : Int) + 13), vr 137])) (S' := MS I1 J2 cc ss) 1 rfl ?_
        refine ev_lasN (j := 37 * p + 6 * c + w + 13) rfl rfl (by omega) (by omega) ?_
        show Ev X k_X9_readsShape (139, [some (vr 135), some (vi (37 * (p : Int) + 12)), some (vi kd), some (vi (37 * (p : Int) + 6 * (c : Int) + 13)), some (vi (w : Int))], []) (MS I1 (up2 J2 137 (37 * p + 6 * c + w + 13) v1) cc ss) _
        refine ev_inc (z := (w : Int) + 1) rfl rfl (by omega) (by omega) (by omega) rfl ?_
        show Ev X k_X9_readsShape (142, [some (vr 135), some (vi (37 * (p : Int) + 12)), some (vi kd), some (vi (37 * (p : Int) + 6 * (c : Int) + 13)), some (vi ((w : Int) + 1))], []) (MS I1 (up2 J2 137 (37 * p + 6 * c + w + 13) v1) cc ss) _
        refine ev_n (fr' := (98, [some (vr 135), some (vi (37 * (p : Int) + 12)), some (vi kd), some (vi (37 * (p : Int) + 6 * (c : Int) + 13)), some (vi ((w : Int) + 1))], [])) (S' := MS I1 (up2 J2 137 (37 * p + 6 * c + w + 13) v1) cc ss) 1 rfl ?_
        obtain ⟨m2, rfl⟩ : ∃ m2, m = m2 + 1 := ⟨m - 1, by omega⟩
        have hX : pNs tx n kd (m2 + 1) w q v = pNs tx n kd m2 (w + 1) e1 (upd1 v w v1) := by
          show (match pnF tx n (lowF kd w) (highF kd w) q with | .inl (e, z) => pNs tx n kd m2 (w + 1) e (upd1 v w z) | .inr x => .inr x) = _
          rw [hpF]
        rw [hX]
        exact lp_shpR X _ _ cc ss I0 J0 hR p c kd hp8 hc6 hc (w + 1) m2 hkd (by omega) (by omega) e1 hK.j hw0 hen1 ((up2_u1 hd).trans (by rw [← wrS_upd (show w < 6 by omega), show 37 * p + 6 * c + 13 + w = 37 * p + 6 * c + w + 13 by omega])) hO.j
      · obtain ⟨rfl, hE⟩ := hz9
        have hR := hR.l hO9
        have hwE := hE.ne
        have hO := hO.trans hO9.f
        have hpF : pnF tx n (lowF kd w) (highF kd w) q = .inr (c1, s1) := (pnF_tok (by omega)).trans hr1
        have hd := (hO9.2.2 137 (by decide)).trans hd
        show Ev X k_X9_readsShape (137, [some (vr 135), some (vi (37 * (p : Int) + 12)), some (vi kd), some (vi (37 * (p : Int) + 6 * (c : Int) + 13)), some (vi (w : Int))], [vi 0, vi (37 * (p : Int) + 6 * (c : Int) + (w : Int) + 13), vr 137]) (MS I1 J2 cc ss) _
        refine ev_n (fr' := (138, [some (vr 135), some (vi (37 * (p : Int) + 12)), some (vi kd), some (vi (37 * (p : Int) + 6 * (c : Int) + 13)), some (vi (w : Int))], [vl 0, vi (37 * (p : Int) + 6 * (c : Int) + (w : Int) + 13), vr 137])) (S' := MS I1 J2 cc ss) 1 rfl ?_
        refine ev_lasN (j := 37 * p + 6 * c + w + 13) rfl rfl (by omega) (by omega) ?_
        show Ev X k_X9_readsShape (139, [some (vr 135), some (vi (37 * (p : Int) + 12)), some (vi kd), some (vi (37 * (p : Int) + 6 * (c : Int) + 13)), some (vi (w : Int))], []) (MS I1 (up2 J2 137 (37 * p + 6 * c + w + 13) 0) cc ss) _
        refine ev_inc (z := (w : Int) + 1) rfl rfl (by omega) (by omega) (by omega) rfl ?_
        show Ev X k_X9_readsShape (142, [some (vr 135), some (vi (37 * (p : Int) + 12)), some (vi kd), some (vi (37 * (p : Int) + 6 * (c : Int) + 13)), some (vi ((w : Int) + 1))], []) (MS I1 (up2 J2 137 (37 * p + 6 * c + w + 13) 0) cc ss) _
        refine ev_n (fr' := (98, [some (vr 135), some (vi (37 * (p : Int) + 12)), some (vi kd), some (vi (37 * (p : Int) + 6 * (c : Int) + 13)), some (vi ((w : Int) + 1))], [])) (S' := MS I1 (up2 J2 137 (37 * p + 6 * c + w + 13) 0) cc ss) 1 rfl ?_
        obtain ⟨m2, rfl⟩ : ∃ m2, m = m2 + 1 := ⟨m - 1, by omega⟩
        have hX : pNs tx n kd (m2 + 1) w q v = .inr (c1, s1) := by
          show (match pnF tx n (lowF kd w) (highF kd w) q with | .inl (e, z) => pNs tx n kd m2 (w + 1) e (upd1 v w z) | .inr x => .inr x) = _
          rw [hpF]
        rw [hX]
        refine (lp_shpE X _ _ cc ss (37 * p + 12) (37 * p + 6 * c + 13) c kd (by omega) (by omega) (by omega) ((up2_ne2 _ _ _ _ (by omega)).trans ((congrFun hd _).trans ((wrS_out (by omega)).trans hc))) hwE (w + 1) (by omega)).mono ?_
        rintro o T ⟨I', J', rfl, rfl, rfl, h2⟩
        exact ⟨_, _, rfl, rfl, hO.trans ⟨fun _ _ => rfl, fun _ _ => rfl, fun a ha hb => (h2 a hb).trans (up2_row _ _ _ _ hb)⟩, hE⟩
  · show Ev X k_X9_readsShape (104, [some (vr 135), some (vi (37 * (p : Int) + 12)), some (vi kd), some (vi (37 * (p : Int) + 6 * (c : Int) + 13)), some (vi (w : Int))], [vi (w : Int)]) (MS I J cc ss) _
    refine ev_n (fr' := (110, [some (vr 135), some (vi (37 * (p : Int) + 12)), some (vi kd), some (vi (37 * (p : Int) + 6 * (c : Int) + 13)), some (vi (w : Int))], [vi 5, vi (w : Int)])) (S' := MS I J cc ss) 2 rfl ?_
    refine ev_ic (c := .ge) (off := 35) rfl (by decide) (fun (g3 : 5 ≤ (w : Int)) => ?_) (fun (g3 : ¬ (5 ≤ (w : Int))) => ?_)
    · show Ev X k_X9_readsShape (145, [some (vr 135), some (vi (37 * (p : Int) + 12)), some (vi kd), some (vi (37 * (p : Int) + 6 * (c : Int) + 13)), some (vi (w : Int))], []) (MS I J cc ss) _
      refine ev_n (fr' := (151, [some (vr 135), some (vi (37 * (p : Int) + 12)), some (vi kd), some (vi (37 * (p : Int) + 6 * (c : Int) + 13)), some (vi (w : Int))], [vi (37 * (p : Int) + 12), vr 137, vi (37 * (p : Int) + 12), vr 137])) (S' := MS I J cc ss) 4 rfl ?_
      refine ev_laN (j := 37 * p + 12) (z := (c : Int)) rfl rfl (by omega) (by omega) ((congrFun hd _).trans ((wrS_out (by omega)).trans hc)) ?_
      show Ev X k_X9_readsShape (152, [some (vr 135), some (vi (37 * (p : Int) + 12)), some (vi kd), some (vi (37 * (p : Int) + 6 * (c : Int) + 13)), some (vi (w : Int))], [vl (c : Int), vi (37 * (p : Int) + 12), vr 137]) (MS I J cc ss) _
      refine ev_n (fr' := (153, [some (vr 135), some (vi (37 * (p : Int) + 12)), some (vi kd), some (vi (37 * (p : Int) + 6 * (c : Int) + 13)), some (vi (w : Int))], [vl 1, vl (c : Int), vi (37 * (p : Int) + 12), vr 137])) (S' := MS I J cc ss) 1 rfl ?_
      refine ev_ladd (z := (c : Int) + 1) rfl (by omega) (by omega) (by omega) ?_
      show Ev X k_X9_readsShape (154, [some (vr 135), some (vi (37 * (p : Int) + 12)), some (vi kd), some (vi (37 * (p : Int) + 6 * (c : Int) + 13)), some (vi (w : Int))], [vl ((c : Int) + 1), vi (37 * (p : Int) + 12), vr 137]) (MS I J cc ss) _
      refine ev_lasN (j := 37 * p + 12) rfl rfl (by omega) (by omega) ?_
      show Ev X k_X9_readsShape (155, [some (vr 135), some (vi (37 * (p : Int) + 12)), some (vi kd), some (vi (37 * (p : Int) + 6 * (c : Int) + 13)), some (vi (w : Int))], []) (MS I (up2 J 137 (37 * p + 12) ((c : Int) + 1)) cc ss) _
      refine ev_r rfl rfl rfl ?_
      have e0 : m = 0 := by omega
      subst e0
      exact ⟨_, _, rfl, rfl, hO.j, hK.j, hw0, up2_u1 hd, hqn⟩
    · show Ev X k_X9_readsShape (113, [some (vr 135), some (vi (37 * (p : Int) + 12)), some (vi kd), some (vi (37 * (p : Int) + 6 * (c : Int) + 13)), some (vi (w : Int))], []) (MS I J cc ss) _
      refine ev_n (fr' := (120, [some (vr 135), some (vi (37 * (p : Int) + 12)), some (vi kd), some (vi (37 * (p : Int) + 6 * (c : Int) + 13)), some (vi (w : Int))], [vi (w : Int), vi (37 * (p : Int) + 6 * (c : Int) + 13), vr 137])) (S' := MS I J cc ss) 4 rfl ?_
      refine ev_add (z := 37 * (p : Int) + 6 * (c : Int) + (w : Int) + 13) rfl (by omega) (by omega) (by omega) ?_
      show Ev X k_X9_readsShape (121, [some (vr 135), some (vi (37 * (p : Int) + 12)), some (vi kd), some (vi (37 * (p : Int) + 6 * (c : Int) + 13)), some (vi (w : Int))], [vi (37 * (p : Int) + 6 * (c : Int) + (w : Int) + 13), vr 137]) (MS I J cc ss) _
      refine ev_n (fr' := (125, [some (vr 135), some (vi (37 * (p : Int) + 12)), some (vi kd), some (vi (37 * (p : Int) + 6 * (c : Int) + 13)), some (vi (w : Int))], [vi (w : Int), vi kd, vr 135, vi (37 * (p : Int) + 6 * (c : Int) + (w : Int) + 13), vr 137])) (S' := MS I J cc ss) 3 rfl ?_
      refine ev_cv rfl rfl rfl ⟨Nat.le_of_ble_eq_true rfl, Nat.le_of_ble_eq_true rfl⟩ (sp_low X _ kd (w : Int) (by omega)) ?_
      show Ev X k_X9_readsShape (128, [some (vr 135), some (vi (37 * (p : Int) + 12)), some (vi kd), some (vi (37 * (p : Int) + 6 * (c : Int) + 13)), some (vi (w : Int))], [vi (lowF kd (w : Int)), vr 135, vi (37 * (p : Int) + 6 * (c : Int) + (w : Int) + 13), vr 137]) (MS I J cc ss) _
      refine ev_n (fr' := (131, [some (vr 135), some (vi (37 * (p : Int) + 12)), some (vi kd), some (vi (37 * (p : Int) + 6 * (c : Int) + 13)), some (vi (w : Int))], [vi (w : Int), vi kd, vi (lowF kd (w : Int)), vr 135, vi (37 * (p : Int) + 6 * (c : Int) + (w : Int) + 13), vr 137])) (S' := MS I J cc ss) 2 rfl ?_
      refine ev_cv rfl rfl rfl ⟨Nat.le_of_ble_eq_true rfl, Nat.le_of_ble_eq_true rfl⟩ (sp_high X _ kd (w : Int) (by omega)) ?_
      show Ev X k_X9_readsShape (134, [some (vr 135), some (vi (37 * (p : Int) + 12)), some (vi kd), some (vi (37 * (p : Int) + 6 * (c : Int) + 13)), some (vi (w : Int))], [vi (highF kd (w : Int)), vi (lowF kd (w : Int)), vr 135, vi (37 * (p : Int) + 6 * (c : Int) + (w : Int) + 13), vr 137]) (MS I J cc ss) _
      refine ev_cz rfl rfl rfl ⟨Nat.le_of_ble_eq_true rfl, Nat.le_of_ble_eq_true rfl⟩ (sp_takes X _ _ _ _ hR (spF tx n q) hK hw0 (lowF kd (w : Int)) (highF kd (w : Int)) (by omega)) (fun z1 I4 J5 q6 => ?_)
      obtain ⟨hO9, hz9⟩ := q6
      rcases hr1 : pnU tx n false (lowF kd (w : Int)) (highF kd (w : Int)) (spF tx n q) with ⟨e1, v1⟩ | ⟨c1, s1⟩ <;> rw [hr1] at hz9
      · obtain ⟨hzv, hK, hw0, hen1⟩ := hz9
        subst z1
        have hR := hR.l hO9
        have hpn1 := pnU_ok hr1
        have hO := hO.trans hO9.f
        have hpF : pnF tx n (lowF kd w) (highF kd w) q = .inl (e1, v1) := (pnF_tok (by omega)).trans hr1
        have hd := (hO9.2.2 137 (by decide)).trans hd
        show Ev X k_X9_readsShape (137, [some (vr 135), some (vi (37 * (p : Int) + 12)), some (vi kd), some (vi (37 * (p : Int) + 6 * (c : Int) + 13)), some (vi (w : Int))], [vi v1, vi (37 * (p : Int) + 6 * (c : Int) + (w : Int) + 13), vr 137]) (MS I4 J5 cc ss) _
        refine ev_n (fr' := (138, [some (vr 135), some (vi (37 * (p : Int) + 12)), some (vi kd), some (vi (37 * (p : Int) + 6 * (c : Int) + 13)), some (vi (w : Int))], [vl v1, vi (37 * (p : Int) + 6 * (c : Int) + (w : Int) + 13), vr 137])) (S' := MS I4 J5 cc ss) 1 rfl ?_
        refine ev_lasN (j := 37 * p + 6 * c + w + 13) rfl rfl (by omega) (by omega) ?_
        show Ev X k_X9_readsShape (139, [some (vr 135), some (vi (37 * (p : Int) + 12)), some (vi kd), some (vi (37 * (p : Int) + 6 * (c : Int) + 13)), some (vi (w : Int))], []) (MS I4 (up2 J5 137 (37 * p + 6 * c + w + 13) v1) cc ss) _
        refine ev_inc (z := (w : Int) + 1) rfl rfl (by omega) (by omega) (by omega) rfl ?_
        show Ev X k_X9_readsShape (142, [some (vr 135), some (vi (37 * (p : Int) + 12)), some (vi kd), some (vi (37 * (p : Int) + 6 * (c : Int) + 13)), some (vi ((w : Int) + 1))], []) (MS I4 (up2 J5 137 (37 * p + 6 * c + w + 13) v1) cc ss) _
        refine ev_n (fr' := (98, [some (vr 135), some (vi (37 * (p : Int) + 12)), some (vi kd), some (vi (37 * (p : Int) + 6 * (c : Int) + 13)), some (vi ((w : Int) + 1))], [])) (S' := MS I4 (up2 J5 137 (37 * p + 6 * c + w + 13) v1) cc ss) 1 rfl ?_
        obtain ⟨m2, rfl⟩ : ∃ m2, m = m2 + 1 := ⟨m - 1, by omega⟩
        have hX : pNs tx n kd (m2 + 1) w q v = pNs tx n kd m2 (w + 1) e1 (upd1 v w v1) := by
          show (match pnF tx n (lowF kd w) (highF kd w) q with | .inl (e, z) => pNs tx n kd m2 (w + 1) e (upd1 v w z) | .inr x => .inr x) = _
          rw [hpF]
        rw [hX]
        exact lp_shpR X _ _ cc ss I0 J0 hR p c kd hp8 hc6 hc (w + 1) m2 hkd (by omega) (by omega) e1 hK.j hw0 hen1 ((up2_u1 hd).trans (by rw [← wrS_upd (show w < 6 by omega), show 37 * p + 6 * c + 13 + w = 37 * p + 6 * c + w + 13 by omega])) hO.j
      · obtain ⟨rfl, hE⟩ := hz9
        have hR := hR.l hO9
        have hwE := hE.ne
        have hO := hO.trans hO9.f
        have hpF : pnF tx n (lowF kd w) (highF kd w) q = .inr (c1, s1) := (pnF_tok (by omega)).trans hr1
        have hd := (hO9.2.2 137 (by decide)).trans hd
        show Ev X k_X9_readsShape (137, [some (vr 135), some (vi (37 * (p : Int) + 12)), some (vi kd), some (vi (37 * (p : Int) + 6 * (c : Int) + 13)), some (vi (w : Int))], [vi 0, vi (37 * (p : Int) + 6 * (c : Int) + (w : Int) + 13), vr 137]) (MS I4 J5 cc ss) _
        refine ev_n (fr' := (138, [some (vr 135), some (vi (37 * (p : Int) + 12)), some (vi kd), some (vi (37 * (p : Int) + 6 * (c : Int) + 13)), some (vi (w : Int))], [vl 0, vi (37 * (p : Int) + 6 * (c : Int) + (w : Int) + 13), vr 137])) (S' := MS I4 J5 cc ss) 1 rfl ?_
        refine ev_lasN (j := 37 * p + 6 * c + w + 13) rfl rfl (by omega) (by omega) ?_
        show Ev X k_X9_readsShape (139, [some (vr 135), some (vi (37 * (p : Int) + 12)), some (vi kd), some (vi (37 * (p : Int) + 6 * (c : Int) + 13)), some (vi (w : Int))], []) (MS I4 (up2 J5 137 (37 * p + 6 * c + w + 13) 0) cc ss) _
        refine ev_inc (z := (w : Int) + 1) rfl rfl (by omega) (by omega) (by omega) rfl ?_
        show Ev X k_X9_readsShape (142, [some (vr 135), some (vi (37 * (p : Int) + 12)), some (vi kd), some (vi (37 * (p : Int) + 6 * (c : Int) + 13)), some (vi ((w : Int) + 1))], []) (MS I4 (up2 J5 137 (37 * p + 6 * c + w + 13) 0) cc ss) _
        refine ev_n (fr' := (98, [some (vr 135), some (vi (37 * (p : Int) + 12)), some (vi kd), some (vi (37 * (p : Int) + 6 * (c : Int) + 13)), some (vi ((w : Int) + 1))], [])) (S' := MS I4 (up2 J5 137 (37 * p + 6 * c + w + 13) 0) cc ss) 1 rfl ?_
        obtain ⟨m2, rfl⟩ : ∃ m2, m = m2 + 1 := ⟨m - 1, by omega⟩
        have hX : pNs tx n kd (m2 + 1) w q v = .inr (c1, s1) := by
          show (match pnF tx n (lowF kd w) (highF kd w) q with | .inl (e, z) => pNs tx n kd m2 (w + 1) e (upd1 v w z) | .inr x => .inr x) = _
          rw [hpF]
        rw [hX]
        refine (lp_shpE X _ _ cc ss (37 * p + 12) (37 * p + 6 * c + 13) c kd (by omega) (by omega) (by omega) ((up2_ne2 _ _ _ _ (by omega)).trans ((congrFun hd _).trans ((wrS_out (by omega)).trans hc))) hwE (w + 1) (by omega)).mono ?_
        rintro o T ⟨I', J', rfl, rfl, rfl, h2⟩
        exact ⟨_, _, rfl, rfl, hO.trans ⟨fun _ _ => rfl, fun _ _ => rfl, fun a ha hb => (h2 a hb).trans (up2_row _ _ _ _ hb)⟩, hE⟩
termination_by m
decreasing_by all_goals omega
theorem sp_readsShape (X : AX) (I J : Nat → Nat → Int) (cc ss : Nat) {tx : F1} {n : Nat} (hR : RB I tx n) (a : Nat) (hK : TK I J tx n a) (hw0 : I 135 11 = 0) (p c : Nat) (hp8 : p < 8) (hc6 : c < 6) {d : F1} (hd : J 137 = d) (hc : d (37 * p + 12) = (c : Int)) (hz : ∀ k, 37 * p + 6 * c + 13 ≤ k → k < 308 → d k = 0) : Ev X k_X9_readsShape (0, [some (vr 135), some (vi (37 * (p : Int) + 12)), none, none, none], []) (MS I J cc ss) (PV cc ss none (fun I' J' => RS I I' J J' tx n (mapR (puS d p c) (pSh tx n a)))) := by
  have ha := hK.1
  refine ev_n (fr' := (3, [some (vr 135), some (vi (37 * (p : Int) + 12)), none, none, none], [vr 1000103, vr 135])) (S' := MS I J cc ss) 2 rfl ?_
  refine ev_cv rfl rfl rfl ⟨Nat.le_of_ble_eq_true rfl, Nat.le_of_ble_eq_true rfl⟩ (sp_isWord_3 X _ _ _ _ hR a hK hw0) ?_
  show Ev X k_X9_readsShape (6, [some (vr 135), some (vi (37 * (p : Int) + 12)), none, none, none], [vi (if wdF tx n a = 2098 then 1 else 0)]) (MS I J cc ss) _
  refine ev_beq _ rfl (by decide) (fun (g1 : ¬ (wdF tx n a = 2098)) => ?_) (fun (g1 : wdF tx n a = 2098) => ?_)
  · show Ev X k_X9_readsShape (13, [some (vr 135), some (vi (37 * (p : Int) + 12)), none, none, none], []) (MS I J cc ss) _
    refine ev_n (fr' := (16, [some (vr 135), some (vi (37 * (p : Int) + 12)), none, none, none], [vr 1000104, vr 135])) (S' := MS I J cc ss) 2 rfl ?_
    refine ev_cv rfl rfl rfl ⟨Nat.le_of_ble_eq_true rfl, Nat.le_of_ble_eq_true rfl⟩ (sp_isWord_4 X _ _ _ _ hR a hK hw0) ?_
    show Ev X k_X9_readsShape (19, [some (vr 135), some (vi (37 * (p : Int) + 12)), none, none, none], [vi (if wdF tx n a = 2552 then 1 else 0)]) (MS I J cc ss) _
    refine ev_beq _ rfl (by decide) (fun (g2 : ¬ (wdF tx n a = 2552)) => ?_) (fun (g2 : wdF tx n a = 2552) => ?_)
    · show Ev X k_X9_readsShape (26, [some (vr 135), some (vi (37 * (p : Int) + 12)), none, none, none], []) (MS I J cc ss) _
      refine ev_n (fr' := (29, [some (vr 135), some (vi (37 * (p : Int) + 12)), none, none, none], [vr 1000105, vr 135])) (S' := MS I J cc ss) 2 rfl ?_
      refine ev_cv rfl rfl rfl ⟨Nat.le_of_ble_eq_true rfl, Nat.le_of_ble_eq_true rfl⟩ (sp_isWord_5 X _ _ _ _ hR a hK hw0) ?_
      show Ev X k_X9_readsShape (32, [some (vr 135), some (vi (37 * (p : Int) + 12)), none, none, none], [vi (if wdF tx n a = 402885 then 1 else 0)]) (MS I J cc ss) _
      refine ev_beq _ rfl (by decide) (fun (g3 : ¬ (wdF tx n a = 402885)) => ?_) (fun (g3 : wdF tx n a = 402885) => ?_)
      · show Ev X k_X9_readsShape (39, [some (vr 135), some (vi (37 * (p : Int) + 12)), none, none, none], []) (MS I J cc ss) _
        refine ev_n (fr' := (52, [some (vr 135), some (vi (37 * (p : Int) + 12)), some (vi (-1)), none, none], [vi 0, vr 135])) (S' := MS I J cc ss) 7 rfl ?_
        refine ev_cv rfl rfl rfl ⟨Nat.le_of_ble_eq_true rfl, Nat.le_of_ble_eq_true rfl⟩ (sp_mustF X _ _ _ _ a hw0 hK.2.2.1) ?_
        show Ev X k_X9_readsShape (55, [some (vr 135), some (vi (37 * (p : Int) + 12)), some (vi (-1)), none, none], []) (MS (up2 (up2 I 135 11 (-2)) 135 12 (a : Int)) J cc ss) _
        have hwE : (up2 (up2 I 135 11 (-2)) 135 12 (a : Int)) 135 11 ≠ 0 := EE.ne (EE.mk (by decide))
        refine ev_n (fr' := (62, [some (vr 135), some (vi (37 * (p : Int) + 12)), some (vi (-1)), none, none], [])) (S' := MS (up2 (up2 I 135 11 (-2)) 135 12 (a : Int)) J cc ss) 3 rfl ?_
        refine ev_r rfl rfl rfl ?_
        have hKW : kdW (wdF tx n a) = -1 := by unfold kdW; rw [if_neg (by omega), if_neg (by omega), if_neg (by omega)]
        have hX : pSh tx n a = .inr (-2, a) := by unfold pSh; rw [hKW, if_pos rfl]
        rw [hX]
        exact ⟨_, _, rfl, rfl, (onlyF.refl _ _).e, EE.mk (by decide)⟩
      · show Ev X k_X9_readsShape (35, [some (vr 135), some (vi (37 * (p : Int) + 12)), none, none, none], []) (MS I J cc ss) _
        refine ev_n (fr' := (52, [some (vr 135), some (vi (37 * (p : Int) + 12)), some (vi 2), none, none], [vi 1, vr 135])) (S' := MS I J cc ss) 9 rfl ?_
        refine ev_cp rfl rfl rfl ⟨Nat.le_of_ble_eq_true rfl, Nat.le_of_ble_eq_true rfl⟩ (sp_mustT X _ _ _ _ hR a hK hw0) (fun I1 J2 q3 => ?_)
        obtain ⟨hK, hO9, hw0⟩ := q3
        show Ev X k_X9_readsShape (55, [some (vr 135), some (vi (37 * (p : Int) + 12)), some (vi 2), none, none], []) (MS I1 J2 cc ss) _
        have hnz : wdF tx n a ≠ 0 := by omega
        rw [en_0 (wd_kd hnz).1] at hK
        have hd := (hO9.2.2 137 (by decide)).trans hd
        have hR := hR.l hO9
        refine ev_n (fr' := (59, [some (vr 135), some (vi (37 * (p : Int) + 12)), some (vi 2), none, none], [vi (I1 135 11)])) (S' := MS I1 J2 cc ss) 2 rfl ?_
        refine ev_eqi (hw0) ?_
        show Ev X k_X9_readsShape (59, [some (vr 135), some (vi (37 * (p : Int) + 12)), some (vi 2), none, none], [vi 0]) (MS I1 J2 cc ss) _
        refine ev_n (fr' := (65, [some (vr 135), some (vi (37 * (p : Int) + 12)), some (vi 2), none, none], [vi 1, vi (37 * (p : Int) + 12)])) (S' := MS I1 J2 cc ss) 3 rfl ?_
        refine ev_add (z := 37 * (p : Int) + 13) rfl (by omega) (by omega) (by omega) ?_
        show Ev X k_X9_readsShape (66, [some (vr 135), some (vi (37 * (p : Int) + 12)), some (vi 2), none, none], [vi (37 * (p : Int) + 13)]) (MS I1 J2 cc ss) _
        refine ev_n (fr' := (73, [some (vr 135), some (vi (37 * (p : Int) + 12)), some (vi 2), none, none], [vi (37 * (p : Int) + 12), vr 137, vi 6, vi (37 * (p : Int) + 13)])) (S' := MS I1 J2 cc ss) 4 rfl ?_
        refine ev_laN (j := 37 * p + 12) (z := (c : Int)) rfl rfl (by omega) (by omega) ((congrFun hd _).trans hc) ?_
        show Ev X k_X9_readsShape (74, [some (vr 135), some (vi (37 * (p : Int) + 12)), some (vi 2), none, none], [vl (c : Int), vi 6, vi (37 * (p : Int) + 13)]) (MS I1 J2 cc ss) _
        refine ev_l2i rfl (by omega) (by omega) ?_
        show Ev X k_X9_readsShape (75, [some (vr 135), some (vi (37 * (p : Int) + 12)), some (vi 2), none, none], [vi (c : Int), vi 6, vi (37 * (p : Int) + 13)]) (MS I1 J2 cc ss) _
        refine ev_mul (z := 6 * (c : Int)) rfl (by omega) (by omega) (by omega) ?_
        show Ev X k_X9_readsShape (76, [some (vr 135), some (vi (37 * (p : Int) + 12)), some (vi 2), none, none], [vi (6 * (c : Int)), vi (37 * (p : Int) + 13)]) (MS I1 J2 cc ss) _
        refine ev_add (z := 37 * (p : Int) + 6 * (c : Int) + 13) rfl (by omega) (by omega) (by omega) ?_
        show Ev X k_X9_readsShape (77, [some (vr 135), some (vi (37 * (p : Int) + 12)), some (vi 2), none, none], [vi (37 * (p : Int) + 6 * (c : Int) + 13)]) (MS I1 J2 cc ss) _
        refine ev_n (fr' := (85, [some (vr 135), some (vi (37 * (p : Int) + 12)), some (vi 2), some (vi (37 * (p : Int) + 6 * (c : Int) + 13)), none], [vl 2, vi (37 * (p : Int) + 6 * (c : Int) + 13), vr 137])) (S' := MS I1 J2 cc ss) 6 rfl ?_
        refine ev_lasN (j := (37 * (p : Int) + 6 * (c : Int) + 13).toNat) rfl rfl (by omega) (by omega) ?_
        show Ev X k_X9_readsShape (86, [some (vr 135), some (vi (37 * (p : Int) + 12)), some (vi 2), some (vi (37 * (p : Int) + 6 * (c : Int) + 13)), none], []) (MS I1 (up2 J2 137 ((37 * (p : Int) + 6 * (c : Int) + 13).toNat) 2) cc ss) _
        refine ev_n (fr' := (92, [some (vr 135), some (vi (37 * (p : Int) + 12)), some (vi 2), some (vi (37 * (p : Int) + 6 * (c : Int) + 13)), none], [vi 5, vi (37 * (p : Int) + 6 * (c : Int) + 13), vr 137])) (S' := MS I1 (up2 J2 137 ((37 * (p : Int) + 6 * (c : Int) + 13).toNat) 2) cc ss) 4 rfl ?_
        refine ev_add (z := 37 * (p : Int) + 6 * (c : Int) + 18) rfl (by omega) (by omega) (by omega) ?_
        show Ev X k_X9_readsShape (93, [some (vr 135), some (vi (37 * (p : Int) + 12)), some (vi 2), some (vi (37 * (p : Int) + 6 * (c : Int) + 13)), none], [vi (37 * (p : Int) + 6 * (c : Int) + 18), vr 137]) (MS I1 (up2 J2 137 ((37 * (p : Int) + 6 * (c : Int) + 13).toNat) 2) cc ss) _
        refine ev_n (fr' := (94, [some (vr 135), some (vi (37 * (p : Int) + 12)), some (vi 2), some (vi (37 * (p : Int) + 6 * (c : Int) + 13)), none], [vl 0, vi (37 * (p : Int) + 6 * (c : Int) + 18), vr 137])) (S' := MS I1 (up2 J2 137 ((37 * (p : Int) + 6 * (c : Int) + 13).toNat) 2) cc ss) 1 rfl ?_
        refine ev_lasN (j := (37 * (p : Int) + 6 * (c : Int) + 18).toNat) rfl rfl (by omega) (by omega) ?_
        show Ev X k_X9_readsShape (95, [some (vr 135), some (vi (37 * (p : Int) + 12)), some (vi 2), some (vi (37 * (p : Int) + 6 * (c : Int) + 13)), none], []) (MS I1 (up2 (up2 J2 137 ((37 * (p : Int) + 6 * (c : Int) + 13).toNat) 2) 137 ((37 * (p : Int) + 6 * (c : Int) + 18).toNat) 0) cc ss) _
        refine ev_n (fr' := (98, [some (vr 135), some (vi (37 * (p : Int) + 12)), some (vi 2), some (vi (37 * (p : Int) + 6 * (c : Int) + 13)), some (vi 1)], [])) (S' := MS I1 (up2 (up2 J2 137 ((37 * (p : Int) + 6 * (c : Int) + 13).toNat) 2) 137 ((37 * (p : Int) + 6 * (c : Int) + 18).toNat) 0) cc ss) 2 rfl ?_
        have hKW : kdW (wdF tx n a) = 2 := by unfold kdW; rw [if_neg (by omega), if_neg (by omega), if_pos (by omega)]
        have hX : pSh tx n a = pNs tx n 2 5 1 (leF tx n a) (v0F 2) := by unfold pSh; rw [hKW]; rfl
        rw [hX]
        exact lp_shpR X _ _ cc ss I J hR p c 2 hp8 hc6 hc 1 5 (by omega) (by omega) (by omega) _ hK.j.j hw0 (leF_le (tx := tx) (n := n) a ha) ((up2_u1 (up2_u1 hd)).trans (wrS_v0 (fun k h1 h2 => hz k h1 (by omega)))) hO9.f.j.j
    · show Ev X k_X9_readsShape (22, [some (vr 135), some (vi (37 * (p : Int) + 12)), none, none, none], []) (MS I J cc ss) _
      refine ev_n (fr' := (52, [some (vr 135), some (vi (37 * (p : Int) + 12)), some (vi 1), none, none], [vi 1, vr 135])) (S' := MS I J cc ss) 9 rfl ?_
      refine ev_cp rfl rfl rfl ⟨Nat.le_of_ble_eq_true rfl, Nat.le_of_ble_eq_true rfl⟩ (sp_mustT X _ _ _ _ hR a hK hw0) (fun I4 J5 q6 => ?_)
      obtain ⟨hK, hO9, hw0⟩ := q6
      show Ev X k_X9_readsShape (55, [some (vr 135), some (vi (37 * (p : Int) + 12)), some (vi 1), none, none], []) (MS I4 J5 cc ss) _
      have hnz : wdF tx n a ≠ 0 := by omega
      rw [en_0 (wd_kd hnz).1] at hK
      have hd := (hO9.2.2 137 (by decide)).trans hd
      have hR := hR.l hO9
      refine ev_n (fr' := (59, [some (vr 135), some (vi (37 * (p : Int) + 12)), some (vi 1), none, none], [vi (I4 135 11)])) (S' := MS I4 J5 cc ss) 2 rfl ?_
      refine ev_eqi (hw0) ?_
      show Ev X k_X9_readsShape (59, [some (vr 135), some (vi (37 * (p : Int) + 12)), some (vi 1), none, none], [vi 0]) (MS I4 J5 cc ss) _
      refine ev_n (fr' := (65, [some (vr 135), some (vi (37 * (p : Int) + 12)), some (vi 1), none, none], [vi 1, vi (37 * (p : Int) + 12)])) (S' := MS I4 J5 cc ss) 3 rfl ?_
      refine ev_add (z := 37 * (p : Int) + 13) rfl (by omega) (by omega) (by omega) ?_
      show Ev X k_X9_readsShape (66, [some (vr 135), some (vi (37 * (p : Int) + 12)), some (vi 1), none, none], [vi (37 * (p : Int) + 13)]) (MS I4 J5 cc ss) _
      refine ev_n (fr' := (73, [some (vr 135), some (vi (37 * (p : Int) + 12)), some (vi 1), none, none], [vi (37 * (p : Int) + 12), vr 137, vi 6, vi (37 * (p : Int) + 13)])) (S' := MS I4 J5 cc ss) 4 rfl ?_
      refine ev_laN (j := 37 * p + 12) (z := (c : Int)) rfl rfl (by omega) (by omega) ((congrFun hd _).trans hc) ?_
      show Ev X k_X9_readsShape (74, [some (vr 135), some (vi (37 * (p : Int) + 12)), some (vi 1), none, none], [vl (c : Int), vi 6, vi (37 * (p : Int) + 13)]) (MS I4 J5 cc ss) _
      refine ev_l2i rfl (by omega) (by omega) ?_
      show Ev X k_X9_readsShape (75, [some (vr 135), some (vi (37 * (p : Int) + 12)), some (vi 1), none, none], [vi (c : Int), vi 6, vi (37 * (p : Int) + 13)]) (MS I4 J5 cc ss) _
      refine ev_mul (z := 6 * (c : Int)) rfl (by omega) (by omega) (by omega) ?_
      show Ev X k_X9_readsShape (76, [some (vr 135), some (vi (37 * (p : Int) + 12)), some (vi 1), none, none], [vi (6 * (c : Int)), vi (37 * (p : Int) + 13)]) (MS I4 J5 cc ss) _
      refine ev_add (z := 37 * (p : Int) + 6 * (c : Int) + 13) rfl (by omega) (by omega) (by omega) ?_
      show Ev X k_X9_readsShape (77, [some (vr 135), some (vi (37 * (p : Int) + 12)), some (vi 1), none, none], [vi (37 * (p : Int) + 6 * (c : Int) + 13)]) (MS I4 J5 cc ss) _
      refine ev_n (fr' := (85, [some (vr 135), some (vi (37 * (p : Int) + 12)), some (vi 1), some (vi (37 * (p : Int) + 6 * (c : Int) + 13)), none], [vl 1, vi (37 * (p : Int) + 6 * (c : Int) + 13), vr 137])) (S' := MS I4 J5 cc ss) 6 rfl ?_
      refine ev_lasN (j := (37 * (p : Int) + 6 * (c : Int) + 13).toNat) rfl rfl (by omega) (by omega) ?_
      show Ev X k_X9_readsShape (86, [some (vr 135), some (vi (37 * (p : Int) + 12)), some (vi 1), some (vi (37 * (p : Int) + 6 * (c : Int) + 13)), none], []) (MS I4 (up2 J5 137 ((37 * (p : Int) + 6 * (c : Int) + 13).toNat) 1) cc ss) _
      refine ev_n (fr' := (92, [some (vr 135), some (vi (37 * (p : Int) + 12)), some (vi 1), some (vi (37 * (p : Int) + 6 * (c : Int) + 13)), none], [vi 5, vi (37 * (p : Int) + 6 * (c : Int) + 13), vr 137])) (S' := MS I4 (up2 J5 137 ((37 * (p : Int) + 6 * (c : Int) + 13).toNat) 1) cc ss) 4 rfl ?_
      refine ev_add (z := 37 * (p : Int) + 6 * (c : Int) + 18) rfl (by omega) (by omega) (by omega) ?_
      show Ev X k_X9_readsShape (93, [some (vr 135), some (vi (37 * (p : Int) + 12)), some (vi 1), some (vi (37 * (p : Int) + 6 * (c : Int) + 13)), none], [vi (37 * (p : Int) + 6 * (c : Int) + 18), vr 137]) (MS I4 (up2 J5 137 ((37 * (p : Int) + 6 * (c : Int) + 13).toNat) 1) cc ss) _
      refine ev_n (fr' := (94, [some (vr 135), some (vi (37 * (p : Int) + 12)), some (vi 1), some (vi (37 * (p : Int) + 6 * (c : Int) + 13)), none], [vl 0, vi (37 * (p : Int) + 6 * (c : Int) + 18), vr 137])) (S' := MS I4 (up2 J5 137 ((37 * (p : Int) + 6 * (c : Int) + 13).toNat) 1) cc ss) 1 rfl ?_
      refine ev_lasN (j := (37 * (p : Int) + 6 * (c : Int) + 18).toNat) rfl rfl (by omega) (by omega) ?_
      show Ev X k_X9_readsShape (95, [some (vr 135), some (vi (37 * (p : Int) + 12)), some (vi 1), some (vi (37 * (p : Int) + 6 * (c : Int) + 13)), none], []) (MS I4 (up2 (up2 J5 137 ((37 * (p : Int) + 6 * (c : Int) + 13).toNat) 1) 137 ((37 * (p : Int) + 6 * (c : Int) + 18).toNat) 0) cc ss) _
      refine ev_n (fr' := (98, [some (vr 135), some (vi (37 * (p : Int) + 12)), some (vi 1), some (vi (37 * (p : Int) + 6 * (c : Int) + 13)), some (vi 1)], [])) (S' := MS I4 (up2 (up2 J5 137 ((37 * (p : Int) + 6 * (c : Int) + 13).toNat) 1) 137 ((37 * (p : Int) + 6 * (c : Int) + 18).toNat) 0) cc ss) 2 rfl ?_
      have hKW : kdW (wdF tx n a) = 1 := by unfold kdW; rw [if_neg (by omega), if_pos (by omega)]
      have hX : pSh tx n a = pNs tx n 1 5 1 (leF tx n a) (v0F 1) := by unfold pSh; rw [hKW]; rfl
      rw [hX]
      exact lp_shpR X _ _ cc ss I J hR p c 1 hp8 hc6 hc 1 5 (by omega) (by omega) (by omega) _ hK.j.j hw0 (leF_le (tx := tx) (n := n) a ha) ((up2_u1 (up2_u1 hd)).trans (wrS_v0 (fun k h1 h2 => hz k h1 (by omega)))) hO9.f.j.j
  · show Ev X k_X9_readsShape (9, [some (vr 135), some (vi (37 * (p : Int) + 12)), none, none, none], []) (MS I J cc ss) _
    refine ev_n (fr' := (52, [some (vr 135), some (vi (37 * (p : Int) + 12)), some (vi 0), none, none], [vi 1, vr 135])) (S' := MS I J cc ss) 9 rfl ?_
    refine ev_cp rfl rfl rfl ⟨Nat.le_of_ble_eq_true rfl, Nat.le_of_ble_eq_true rfl⟩ (sp_mustT X _ _ _ _ hR a hK hw0) (fun I7 J8 q9 => ?_)
    obtain ⟨hK, hO9, hw0⟩ := q9
    show Ev X k_X9_readsShape (55, [some (vr 135), some (vi (37 * (p : Int) + 12)), some (vi 0), none, none], []) (MS I7 J8 cc ss) _
    have hnz : wdF tx n a ≠ 0 := by omega
    rw [en_0 (wd_kd hnz).1] at hK
    have hd := (hO9.2.2 137 (by decide)).trans hd
    have hR := hR.l hO9
    refine ev_n (fr' := (59, [some (vr 135), some (vi (37 * (p : Int) + 12)), some (vi 0), none, none], [vi (I7 135 11)])) (S' := MS I7 J8 cc ss) 2 rfl ?_
    refine ev_eqi (hw0) ?_
    show Ev X k_X9_readsShape (59, [some (vr 135), some (vi (37 * (p : Int) + 12)), some (vi 0), none, none], [vi 0]) (MS I7 J8 cc ss) _
    refine ev_n (fr' := (65, [some (vr 135), some (vi (37 * (p : Int) + 12)), some (vi 0), none, none], [vi 1, vi (37 * (p : Int) + 12)])) (S' := MS I7 J8 cc ss) 3 rfl ?_
    refine ev_add (z := 37 * (p : Int) + 13) rfl (by omega) (by omega) (by omega) ?_
    show Ev X k_X9_readsShape (66, [some (vr 135), some (vi (37 * (p : Int) + 12)), some (vi 0), none, none], [vi (37 * (p : Int) + 13)]) (MS I7 J8 cc ss) _
    refine ev_n (fr' := (73, [some (vr 135), some (vi (37 * (p : Int) + 12)), some (vi 0), none, none], [vi (37 * (p : Int) + 12), vr 137, vi 6, vi (37 * (p : Int) + 13)])) (S' := MS I7 J8 cc ss) 4 rfl ?_
    refine ev_laN (j := 37 * p + 12) (z := (c : Int)) rfl rfl (by omega) (by omega) ((congrFun hd _).trans hc) ?_
    show Ev X k_X9_readsShape (74, [some (vr 135), some (vi (37 * (p : Int) + 12)), some (vi 0), none, none], [vl (c : Int), vi 6, vi (37 * (p : Int) + 13)]) (MS I7 J8 cc ss) _
    refine ev_l2i rfl (by omega) (by omega) ?_
    show Ev X k_X9_readsShape (75, [some (vr 135), some (vi (37 * (p : Int) + 12)), some (vi 0), none, none], [vi (c : Int), vi 6, vi (37 * (p : Int) + 13)]) (MS I7 J8 cc ss) _
    refine ev_mul (z := 6 * (c : Int)) rfl (by omega) (by omega) (by omega) ?_
    show Ev X k_X9_readsShape (76, [some (vr 135), some (vi (37 * (p : Int) + 12)), some (vi 0), none, none], [vi (6 * (c : Int)), vi (37 * (p : Int) + 13)]) (MS I7 J8 cc ss) _
    refine ev_add (z := 37 * (p : Int) + 6 * (c : Int) + 13) rfl (by omega) (by omega) (by omega) ?_
    show Ev X k_X9_readsShape (77, [some (vr 135), some (vi (37 * (p : Int) + 12)), some (vi 0), none, none], [vi (37 * (p : Int) + 6 * (c : Int) + 13)]) (MS I7 J8 cc ss) _
    refine ev_n (fr' := (85, [some (vr 135), some (vi (37 * (p : Int) + 12)), some (vi 0), some (vi (37 * (p : Int) + 6 * (c : Int) + 13)), none], [vl 0, vi (37 * (p : Int) + 6 * (c : Int) + 13), vr 137])) (S' := MS I7 J8 cc ss) 6 rfl ?_
    refine ev_lasN (j := (37 * (p : Int) + 6 * (c : Int) + 13).toNat) rfl rfl (by omega) (by omega) ?_
    show Ev X k_X9_readsShape (86, [some (vr 135), some (vi (37 * (p : Int) + 12)), some (vi 0), some (vi (37 * (p : Int) + 6 * (c : Int) + 13)), none], []) (MS I7 (up2 J8 137 ((37 * (p : Int) + 6 * (c : Int) + 13).toNat) 0) cc ss) _
    refine ev_n (fr' := (92, [some (vr 135), some (vi (37 * (p : Int) + 12)), some (vi 0), some (vi (37 * (p : Int) + 6 * (c : Int) + 13)), none], [vi 5, vi (37 * (p : Int) + 6 * (c : Int) + 13), vr 137])) (S' := MS I7 (up2 J8 137 ((37 * (p : Int) + 6 * (c : Int) + 13).toNat) 0) cc ss) 4 rfl ?_
    refine ev_add (z := 37 * (p : Int) + 6 * (c : Int) + 18) rfl (by omega) (by omega) (by omega) ?_
    show Ev X k_X9_readsShape (93, [some (vr 135), some (vi (37 * (p : Int) + 12)), some (vi 0), some (vi (37 * (p : Int) + 6 * (c : Int) + 13)), none], [vi (37 * (p : Int) + 6 * (c : Int) + 18), vr 137]) (MS I7 (up2 J8 137 ((37 * (p : Int) + 6 * (c : Int) + 13).toNat) 0) cc ss) _
    refine ev_n (fr' := (94, [some (vr 135), some (vi (37 * (p : Int) + 12)), some (vi 0), some (vi (37 * (p : Int) + 6 * (c : Int) + 13)), none], [vl 0, vi (37 * (p : Int) + 6 * (c : Int) + 18), vr 137])) (S' := MS I7 (up2 J8 137 ((37 * (p : Int) + 6 * (c : Int) + 13).toNat) 0) cc ss) 1 rfl ?_
    refine ev_lasN (j := (37 * (p : Int) + 6 * (c : Int) + 18).toNat) rfl rfl (by omega) (by omega) ?_
    show Ev X k_X9_readsShape (95, [some (vr 135), some (vi (37 * (p : Int) + 12)), some (vi 0), some (vi (37 * (p : Int) + 6 * (c : Int) + 13)), none], []) (MS I7 (up2 (up2 J8 137 ((37 * (p : Int) + 6 * (c : Int) + 13).toNat) 0) 137 ((37 * (p : Int) + 6 * (c : Int) + 18).toNat) 0) cc ss) _
    refine ev_n (fr' := (98, [some (vr 135), some (vi (37 * (p : Int) + 12)), some (vi 0), some (vi (37 * (p : Int) + 6 * (c : Int) + 13)), some (vi 1)], [])) (S' := MS I7 (up2 (up2 J8 137 ((37 * (p : Int) + 6 * (c : Int) + 13).toNat) 0) 137 ((37 * (p : Int) + 6 * (c : Int) + 18).toNat) 0) cc ss) 2 rfl ?_
    have hKW : kdW (wdF tx n a) = 0 := by unfold kdW; rw [if_pos (by omega)]
    have hX : pSh tx n a = pNs tx n 0 4 1 (leF tx n a) (v0F 0) := by unfold pSh; rw [hKW]; rfl
    rw [hX]
    exact lp_shpR X _ _ cc ss I J hR p c 0 hp8 hc6 hc 1 4 (by omega) (by omega) (by omega) _ hK.j.j hw0 (leF_le (tx := tx) (n := n) a ha) ((up2_u1 (up2_u1 hd)).trans (wrS_v0 (fun k h1 h2 => hz k h1 (by omega)))) hO9.f.j.j
