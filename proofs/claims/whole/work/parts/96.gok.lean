/-! WHAT THE GRAMMAR keeps (printed by gen/g96.py) -/
theorem pnF_ge {tx : F1} {n p e : Nat} {lo hi v : Int} (h : pnF tx n lo hi p = .inl (e, v)) : p ≤ e := by
  have h1 := (pnU_ok h).2.2.1
  have h2 := diF_ge (tx := tx) (n := n) (nsF tx n p lo)
  have h3 : p ≤ nsF tx n p lo := by
    unfold nsF
    have h4 := spF_ge (tx := tx) (n := n) p
    have h5 := spF_ge (tx := tx) (n := n) (spF tx n p + 1)
    split <;> omega
  omega
theorem pNs_ok {tx : F1} {n : Nat} {kd : Int} : ∀ (m w p : Nat) (v : F1) (e : Nat) (v' : F1), pNs tx n kd m w p v = .inl (e, v') → p ≤ e ∧ (∀ j, j < w ∨ w + m ≤ j → v' j = v j) ∧ ∀ j : Nat, w ≤ j → j < w + m → lowF kd j ≤ v' j ∧ v' j ≤ highF kd j
  | 0, w, p, v, e, v', h => by
    cases h
    exact ⟨Nat.le_refl _, fun _ _ => rfl, fun j h1 h2 => absurd h1 (by omega)⟩
  | m + 1, w, p, v, e, v', h => by
    unfold pNs at h
    rcases hr : pnF tx n (lowF kd w) (highF kd w) p with ⟨e1, z1⟩ | x
    · rw [hr] at h
      obtain ⟨h1, h2, h3⟩ := pNs_ok m (w + 1) e1 (upd1 v w z1) e v' h
      have h4 := pnF_ge hr
      have h5 := pnF_rng hr
      refine ⟨by omega, fun j hj => (h2 j (by omega)).trans (upd1_ne _ _ _ (by omega)), fun j hj hj2 => ?_⟩
      by_cases ej : j = w
      · rw [ej, h2 w (by omega), upd1_same]; exact h5
      · exact h3 j (by omega) (by omega)
    · rw [hr] at h; cases h
theorem kdW_rng (w : Int) : kdW w = -1 ∨ kdW w = 0 ∨ kdW w = 1 ∨ kdW w = 2 := by
  unfold kdW; split
  · omega
  · split
    · omega
    · split <;> omega
def ShV (v : F1) : Prop := 0 ≤ v 0 ∧ v 0 ≤ 2 ∧ ∀ w : Nat, 1 ≤ w → w ≤ 5 → lowF (v 0) w ≤ v w ∧ v w ≤ highF (v 0) w
theorem pSh_ok {tx : F1} {n a e : Nat} {v : F1} (h : pSh tx n a = .inl (e, v)) : a ≤ e ∧ ShV v := by
  unfold pSh at h
  by_cases h1 : kdW (wdF tx n a) = -1
  · rw [if_pos h1] at h; cases h
  · rw [if_neg h1] at h
    obtain ⟨k, hk⟩ : ∃ k, kdW (wdF tx n a) = k := ⟨_, rfl⟩
    rw [hk] at h h1
    have hkr := kdW_rng (wdF tx n a)
    rw [hk] at hkr
    obtain ⟨h2, h3, h4⟩ := pNs_ok _ _ _ _ _ _ h
    have h5 := leF_ge (tx := tx) (n := n) a
    have h0 : v 0 = k := (h3 0 (Or.inl (by omega))).trans (if_pos rfl)
    refine ⟨by omega, ?_⟩
    unfold ShV
    rw [h0]
    refine ⟨by omega, by omega, fun w w1 w5 => ?_⟩
    by_cases e5 : k = 0 ∧ w = 5
    · have h6 : v w = 0 := (h3 w (by rw [if_pos e5.1]; omega)).trans (if_neg (by omega))
      rw [h6, e5.1, e5.2]; decide
    · exact h4 w w1 (by split <;> omega)
theorem pU2_ok {tx : F1} {n p e : Nat} {t : Int} {v : F1} (h : pU2 tx n t p = .inl (e, v)) : p ≤ e ∧ ∃ z1 z2, v = vUF t z1 z2 ∧ (-48 ≤ z1 ∧ z1 ≤ 48) ∧ (-48 ≤ z2 ∧ z2 ≤ 48) := by
  unfold pU2 at h
  rcases hr : pnF tx n (-48) 48 p with ⟨e1, z1⟩ | x
  · rw [hr] at h
    simp only at h
    rcases hr2 : pnF tx n (-48) 48 e1 with ⟨e2, z2⟩ | x
    · rw [hr2] at h
      cases h
      have a1 := pnF_ge hr
      have a2 := pnF_ge hr2
      exact ⟨by omega, z1, z2, rfl, pnF_rng hr, pnF_rng hr2⟩
    · rw [hr2] at h; cases h
  · rw [hr] at h; cases h
def UsV (d : F1) (v : F1) : Prop := 0 ≤ v 0 ∧ v 0 < d 11 ∧ -48 ≤ v 1 ∧ v 1 ≤ 48 ∧ -48 ≤ v 2 ∧ v 2 ≤ 48
theorem pUs_ok {st : Bool} {tx : F1} {n a e : Nat} {d v : F1} (hd : 0 ≤ d 11) (h : pUs st tx n d a = .inl (e, v)) : a ≤ e ∧ UsV d v := by
  unfold pUs at h
  have g1 := leF_ge (tx := tx) (n := n) a
  have g2 := spF_ge (tx := tx) (n := n) (leF tx n a)
  have g3 := leF_ge (tx := tx) (n := n) (spF tx n (leF tx n a))
  by_cases h1 : wdF tx n a = 0
  · rw [if_pos h1] at h; cases h
  rw [if_neg h1] at h
  by_cases h2 : paF tx n d a = -1
  · rw [if_pos h2] at h; cases h
  rw [if_neg h2] at h
  have ht : 0 ≤ paF tx n d a ∧ paF tx n d a < d 11 := by
    rcases fnd_rng (fun r => d (r + 461)) (wdF tx n a) (d 11).toNat 0 with q | ⟨k, k1, k2, k3, k4⟩
    · exact absurd q h2
    · have k5 : paF tx n d a = (k : Int) := k3
      omega
  have hv0 : UsV d (vUF (paF tx n d a) 0 0) := ⟨ht.1, ht.2, show (-48 : Int) ≤ 0 by decide, show (0 : Int) ≤ 48 by decide, show (-48 : Int) ≤ 0 by decide, show (0 : Int) ≤ 48 by decide⟩
  by_cases h3 : kdF tx n (spF tx n (leF tx n a)) = 0
  · rw [if_pos h3] at h
    by_cases h4 : wdF tx n (spF tx n (leF tx n a)) = 52
    · rw [if_pos h4] at h
      obtain ⟨a1, z1, z2, rfl, b1, b2⟩ := pU2_ok h
      exact ⟨by omega, ht.1, ht.2, b1.1, b1.2, b2.1, b2.2⟩
    · rw [if_neg h4] at h
      cases st
      · rw [if_neg (by decide)] at h; cases h; exact ⟨by omega, hv0⟩
      · rw [if_pos rfl] at h; cases h
  · rw [if_neg h3] at h; cases h; exact ⟨by omega, hv0⟩
theorem pIt_ok {one : Nat → (Nat × F1) ⊕ (Int × Nat)} {put : F1 → Nat → F1 → F1} {tx : F1} {n : Nat} {Q : F1 → Prop} {Inv : Nat → F1 → Prop} (hone : ∀ p e v, one p = .inl (e, v) → p ≤ e ∧ Q v) (hst : ∀ c d v, c < 6 → Inv c d → Q v → Inv (c + 1) (put d c v)) : ∀ (m c : Nat) (d : F1) (p e : Nat) (d' : F1), m + c = 5 → Inv c d → pIt one put tx n m c d p = .inl (e, d') → p ≤ e ∧ ∃ c', 1 ≤ c' ∧ c' ≤ 6 ∧ Inv c' d' := by
  intro m
  induction m with
  | zero =>
    intro c d p e d' hmc hi h
    rcases hr : one p with ⟨e1, v1⟩ | x
    · obtain ⟨h1, h2⟩ := hone p e1 v1 hr
      by_cases h3 : atF tx n (spF tx n e1) = 44
      · rw [pIt_0 hr h3] at h; cases h
      · rw [pIt_no hr h3] at h; cases h
        have h4 := spF_ge (tx := tx) (n := n) e1
        exact ⟨by omega, c + 1, by omega, by omega, hst c d v1 (by omega) hi h2⟩
    · rw [pIt_er hr] at h; cases h
  | succ m ih =>
    intro c d p e d' hmc hi h
    rcases hr : one p with ⟨e1, v1⟩ | x
    · obtain ⟨h1, h2⟩ := hone p e1 v1 hr
      have h4 := spF_ge (tx := tx) (n := n) e1
      by_cases h3 : atF tx n (spF tx n e1) = 44
      · rw [pIt_s hr h3] at h
        obtain ⟨a1, a2⟩ := ih (c + 1) (put d c v1) (spF tx n e1 + 1) e d' (by omega) (hst c d v1 (by omega) hi h2) h
        exact ⟨by omega, a2⟩
      · rw [pIt_no hr h3] at h; cases h
        exact ⟨by omega, c + 1, by omega, by omega, hst c d v1 (by omega) hi h2⟩
    · rw [pIt_er hr] at h; cases h
theorem WI.mono {g g' : F1} (h : WI g) (e11 : g 11 ≤ g' 11) (e : ∀ k, 308 ≤ k → k < 461 → g' k = g k) : WI g' := by
  have e0 : g' 308 = g 308 := e 308 (by omega) (by omega)
  obtain ⟨h1, h2, h3⟩ := h
  refine ⟨by rw [e0]; exact h1, by rw [e0]; exact h2, fun q hq => ?_⟩
  rw [e0] at hq
  obtain ⟨c1, c2, c3⟩ := h3 q hq
  have ec : g' (19 * q + 309) = g (19 * q + 309) := e _ (by omega) (by omega)
  refine ⟨by rw [ec]; exact c1, by rw [ec]; exact c2, fun s hs => ?_⟩
  rw [ec] at hs
  obtain ⟨d1, d2, d3, d4, d5, d6⟩ := c3 s hs
  rw [e (19 * q + 3 * s + 310) (by omega) (by omega), e (19 * q + 3 * s + 311) (by omega) (by omega), e (19 * q + 3 * s + 312) (by omega) (by omega)]
  exact ⟨d1, by omega, d3, d4, d5, d6⟩
/-- the row of a part under way: c shapes -/
def InvP (D : F1) (s c : Nat) (e : F1) : Prop := e (37 * s + 12) = (c : Int) ∧ (∀ k, k < 37 * s + 12 ∨ 37 * s + 49 ≤ k → e k = D k) ∧ ∀ r, r < c → ShB e s r
def InvI (D : F1) (s c : Nat) (e : F1) : Prop := e (19 * s + 309) = (c : Int) ∧ (∀ k, k < 19 * s + 309 ∨ 19 * s + 328 ≤ k → e k = D k) ∧ ∀ r, r < c → UsB e s r
theorem InvP.step {D : F1} {s : Nat} (c : Nat) (e v : F1) (hc : c < 6) (h : InvP D s c e) (hv : ShV v) : InvP D s (c + 1) (puS e s c v) := by
  obtain ⟨h1, h2, h3⟩ := h
  refine ⟨by rw [puS_cnt]; omega, fun k hk => (puS_out (by omega) (by omega)).trans (h2 k hk), fun r hr => ?_⟩
  by_cases er : r = c
  · have e0 : puS e s c v (37 * s + 6 * c + 13) = v 0 := puS_in (w := 0) (by omega)
    rw [er]
    refine ⟨by rw [e0]; exact hv.1, by rw [e0]; exact hv.2.1, fun w w1 w5 => ?_⟩
    rw [e0, puS_in (by omega)]; exact hv.2.2 w w1 w5
  · exact ShB.eqv (h3 r (by omega)) (fun w hw => puS_out (by omega) (by omega))
theorem InvI.step {D : F1} {s : Nat} (c : Nat) (e v : F1) (hc : c < 6) (h : InvI D s c e) (hv : UsV D v) : InvI D s (c + 1) (puU e s c v) := by
  obtain ⟨h1, h2, h3⟩ := h
  have e11 : puU e s c v 11 = e 11 := puU_out (by omega) (by omega)
  have e12 : puU e s c v 11 = D 11 := e11.trans (h2 11 (by omega))
  refine ⟨by rw [puU_cnt]; omega, fun k hk => (puU_out (by omega) (by omega)).trans (h2 k hk), fun r hr => ?_⟩
  by_cases er : r = c
  · have e0 : puU e s c v (19 * s + 3 * c + 310) = v 0 := puU_in (w := 0) (by omega)
    have e1 : puU e s c v (19 * s + 3 * c + 311) = v 1 := by have := puU_in (d := e) (p := s) (c := c) (w := 1) (v := v) (by omega); rw [show 19 * s + 3 * c + 1 + 310 = 19 * s + 3 * c + 311 by omega] at this; exact this
    have e2 : puU e s c v (19 * s + 3 * c + 312) = v 2 := by have := puU_in (d := e) (p := s) (c := c) (w := 2) (v := v) (by omega); rw [show 19 * s + 3 * c + 2 + 310 = 19 * s + 3 * c + 312 by omega] at this; exact this
    rw [er]
    unfold UsB
    rw [e0, e1, e2, e12]; exact hv
  · exact UsB.eqv (h3 r (by omega)) e11 (fun w hw => puU_out (by omega) (by omega))
theorem rowF_cnt {d : F1} {nI nm cn s : Nat} {x : Int} (h1 : cn ≠ nI) (h2 : cn ≠ nm) : rowF d nI nm cn s x cn = 0 := by unfold rowF; rw [if_neg h1, if_neg h2, if_pos rfl]
/-- the row with a part more -/
theorem WF.newP {d e : F1} {tx : F1} {n s a c : Nat} (h : WF d) (hs : d 11 = (s : Int)) (hs8 : s < 8) (hc : 1 ≤ c ∧ c ≤ 6) (hi : InvP (rwP tx n d s a) s c e) : WF e := by
  obtain ⟨h1, h2, h3⟩ := hi
  have e11 : e 11 = (s : Int) + 1 := (h2 11 (by omega)).trans (if_pos rfl)
  have eo : ∀ k, (k < 37 * s + 12 ∨ 37 * s + 49 ≤ k) → k ≠ 11 → k ≠ s + 461 → e k = d k := fun k k1 k2 k3 => (h2 k k1).trans (rowF_out k2 k3 (by omega))
  refine ⟨h.1.eqv (fun k hk => eo k (by omega) (by omega) (by omega)), ?_, h.2.2.mono (by rw [hs, e11]; omega) (fun k k1 k2 => eo k (by omega) (by omega) (by omega))⟩
  refine ⟨by rw [e11]; omega, by rw [e11]; omega, fun q hq => ?_⟩
  rw [e11] at hq
  by_cases eq : q = s
  · rw [eq, h1]
    refine ⟨by omega, by omega, fun r hr => h3 r (by omega)⟩
  · obtain ⟨c1, c2, c3⟩ := h.2.1.2.2 q (by omega)
    have ec : e (37 * q + 12) = d (37 * q + 12) := eo _ (by omega) (by omega) (by omega)
    refine ⟨by rw [ec]; exact c1, by rw [ec]; exact c2, fun r hr => ?_⟩
    rw [ec] at hr
    exact ShB.eqv (c3 r hr) (fun w hw => eo _ (by omega) (by omega) (by omega))
theorem WF.newI {d e : F1} {tx : F1} {n s a c : Nat} (h : WF d) (hs : d 308 = (s : Int)) (hs8 : s < 8) (hc : c ≤ 6) (hi : InvI (rwI tx n d s a) s c e) : WF e := by
  obtain ⟨h1, h2, h3⟩ := hi
  have e308 : e 308 = (s : Int) + 1 := (h2 308 (by omega)).trans (if_pos rfl)
  have eo : ∀ k, (k < 19 * s + 309 ∨ 19 * s + 328 ≤ k) → k ≠ 308 → k ≠ s + 469 → e k = d k := fun k k1 k2 k3 => (h2 k k1).trans (rowF_out k2 k3 (by omega))
  refine h.ofI ?_ (fun k hk => eo k (by omega) (by omega) (by omega))
  have e11 : e 11 = d 11 := eo 11 (by omega) (by omega) (by omega)
  refine ⟨by rw [e308]; omega, by rw [e308]; omega, fun q hq => ?_⟩
  rw [e308] at hq
  by_cases eq : q = s
  · rw [eq, h1]
    refine ⟨by omega, by omega, fun r hr => h3 r (by omega)⟩
  · obtain ⟨c1, c2, c3⟩ := h.2.2.2.2 q (by omega)
    have ec : e (19 * q + 309) = d (19 * q + 309) := eo _ (by omega) (by omega) (by omega)
    refine ⟨by rw [ec]; exact c1, by rw [ec]; exact c2, fun r hr => ?_⟩
    rw [ec] at hr
    exact UsB.eqv (c3 r hr) e11 (fun w hw => eo _ (by omega) (by omega) (by omega))
theorem InvP.start {tx d : F1} {n s a : Nat} (hs8 : s < 8) : InvP (rwP tx n d s a) s 0 (rwP tx n d s a) := ⟨rowF_cnt (by omega) (by omega), fun _ _ => rfl, fun r hr => absurd hr (by omega)⟩
theorem InvI.start {tx d : F1} {n s a : Nat} (hs8 : s < 8) : InvI (rwI tx n d s a) s 0 (rwI tx n d s a) := ⟨rowF_cnt (by omega) (by omega), fun _ _ => rfl, fun r hr => absurd hr (by omega)⟩
theorem pRP_ok {tx : F1} {n s a p e : Nat} {d d' : F1} (hw : WF d) (hs : d 11 = (s : Int)) (h : pRP tx n d s a p = .inl (e, d')) : p ≤ e ∧ WF d' ∧ ∀ k, (k < 11 ∨ (308 ≤ k ∧ k < 461) ∨ 469 ≤ k) → d' k = d k := by
  unfold pRP at h
  have g1 := spF_ge (tx := tx) (n := n) p
  have g2 := leF_ge (tx := tx) (n := n) (spF tx n p)
  by_cases h1 : 8 ≤ d 11
  · rw [if_pos h1] at h; cases h
  rw [if_neg h1] at h
  by_cases h2 : wdF tx n (spF tx n p) = 0
  · rw [if_pos h2] at h; cases h
  rw [if_neg h2] at h
  by_cases h3 : pnmF tx n d 461 11 (spF tx n p) ≠ -1
  · rw [if_pos h3] at h; cases h
  rw [if_neg h3] at h
  obtain ⟨a1, c, c1, c6, hi⟩ := pIt_ok (Q := ShV) (Inv := InvP (rwP tx n d s (spF tx n p)) s) (fun p e v q => by
    have q1 := pSh_ok q
    have q2 := spF_ge (tx := tx) (n := n) p
    exact ⟨by omega, q1.2⟩) (fun c e v hc h1 h2 => InvP.step c e v hc h1 h2) 5 0 _ _ _ _ rfl (InvP.start (by omega)) h
  exact ⟨by omega, hw.newP hs (by omega) ⟨c1, c6⟩ hi, fun k hk => (hi.2.1 k (by omega)).trans (rowF_out (by omega) (by omega) (by omega))⟩
theorem pRI_ok {st : Bool} {tx : F1} {n s a p e : Nat} {d d' : F1} (hw : WF d) (hs : d 308 = (s : Int)) (h : pRI st tx n d s a p = .inl (e, d')) : p ≤ e ∧ WF d' ∧ ∀ k, (k < 308 ∨ (461 ≤ k ∧ k < 469)) → d' k = d k := by
  unfold pRI at h
  have g1 := spF_ge (tx := tx) (n := n) p
  have g2 := leF_ge (tx := tx) (n := n) (spF tx n p)
  have g3 := spF_ge (tx := tx) (n := n) (leF tx n (spF tx n p))
  have hd := hw.2.1.1
  by_cases h1 : 8 ≤ d 308
  · rw [if_pos h1] at h; cases h
  rw [if_neg h1] at h
  by_cases h2 : wdF tx n (spF tx n p) = 0
  · rw [if_pos h2] at h; cases h
  rw [if_neg h2] at h
  by_cases h3 : pnmF tx n d 469 308 (spF tx n p) ≠ -1
  · rw [if_pos h3] at h; cases h
  rw [if_neg h3] at h
  have e11 : rwI tx n d s (spF tx n p) 11 = d 11 := rowF_out (by omega) (by omega) (by omega)
  by_cases h4 : kdF tx n (spF tx n (leF tx n (spF tx n p))) = 0
  · rw [if_pos h4] at h
    obtain ⟨a1, c, c1, c6, hi⟩ := pIt_ok (Q := UsV (rwI tx n d s (spF tx n p))) (Inv := InvI (rwI tx n d s (spF tx n p)) s) (fun p e v q => by
      have q1 := pUs_ok hd q
      have q2 := spF_ge (tx := tx) (n := n) p
      refine ⟨by omega, ?_⟩
      unfold UsV; rw [e11]; exact q1.2) (fun c e v hc h1 h2 => InvI.step c e v hc h1 h2) 5 0 _ _ _ _ rfl (InvI.start (by omega)) h
    exact ⟨by omega, hw.newI hs (by omega) c6 hi, fun k hk => (hi.2.1 k (by omega)).trans (rowF_out (by omega) (by omega) (by omega))⟩
  · rw [if_neg h4] at h; cases h
    exact ⟨by omega, hw.newI hs (by omega) (by omega) (InvI.start (by omega)), fun k hk => rowF_out (by omega) (by omega) (by omega)⟩
theorem plE_ok {d : F1} {n : Nat} {x : Int} (hw : WS d) (hn : d 0 = (n : Int)) (hne : ∀ j, j < n → d (2 * j + 1) ≠ x) : plE d n x ≤ n ∧ (plE d n x = 0 ∨ d (2 * (plE d n x - 1) + 1) < x) ∧ ∀ j, plE d n x ≤ j → j < n → x < d (2 * j + 1) := by
  have hex : ∀ m : Nat, m ≤ n → ∃ pl, pl ≤ m ∧ (∀ j, j < pl → d (2 * j + 1) < x) ∧ (pl = m ∨ x ≤ d (2 * pl + 1)) := by
    intro m
    induction m with
    | zero => intro _; exact ⟨0, by omega, fun j hj => absurd hj (by omega), Or.inl rfl⟩
    | succ m ih =>
      intro hm
      obtain ⟨pl, p1, p2, p3⟩ := ih (by omega)
      rcases p3 with q | q
      · by_cases hx : d (2 * m + 1) < x
        · refine ⟨m + 1, by omega, fun j hj => ?_, Or.inl rfl⟩
          by_cases ej : j = m
          · rw [ej]; exact hx
          · exact p2 j (by omega)
        · exact ⟨m, by omega, q ▸ p2, Or.inr (by omega)⟩
      · exact ⟨pl, by omega, p2, Or.inr q⟩
  obtain ⟨pl, p1, p2, p3⟩ := hex n (Nat.le_refl _)
  rw [plE_eq p1 p2 p3]
  refine ⟨p1, ?_, fun j h1 h2 => ?_⟩
  · by_cases e0 : pl = 0
    · exact Or.inl e0
    · exact Or.inr (p2 _ (by omega))
  · rcases p3 with q | q
    · omega
    · have hpx := hne pl (by omega)
      by_cases ej : j = pl
      · rw [ej]; omega
      · have := WS.lt hw hn (j - pl - 1) pl (by omega)
        rw [show pl + (j - pl - 1) + 1 = j by omega] at this
        omega
theorem pSz_ok {st : Bool} {tx : F1} {n a p e : Nat} {d d' : F1} (hw : WF d) (h : pSz st tx n d a p = .inl (e, d')) : p ≤ e ∧ WF d' ∧ ∀ k, 11 ≤ k → d' k = d k := by
  by_cases h1 : 5 ≤ d 0
  · unfold pSz at h; rw [if_pos h1] at h; cases h
  rcases hr : pnF tx n 4 32 p with ⟨e1, x⟩ | x
  · rw [pSz_1 h1 hr] at h
    have hx := pnF_rng hr
    have hp := pnF_ge hr
    have g1 := spF_ge (tx := tx) (n := n) e1
    have g2 := leF_ge (tx := tx) (n := n) (spF tx n e1)
    unfold pSz2 at h
    by_cases h2 : szF d x ≠ -1
    · rw [if_pos h2] at h; cases h
    rw [if_neg h2] at h
    have h0 := hw.1.1
    have hne : ∀ j, j < (d 0).toNat → d (2 * j + 1) ≠ x := fun j hj => fnd_none (f := fun r => d (2 * r + 1)) _ 0 (Decidable.of_not_not h2) j (by omega) (by omega)
    obtain ⟨b1, b2, b3⟩ := plE_ok (n := (d 0).toNat) hw.1 (by omega) hne
    have hW : ∀ z, -2 ≤ z ∧ z ≤ 2 → WF (insE d x z) ∧ ∀ k, 11 ≤ k → insE d x z k = d k := fun z hz => ⟨WF.ins hw (by omega) (by omega) b1 hx hz b2 b3, fun k hk => insF_far b1 (by omega)⟩
    by_cases h3 : kdF tx n (spF tx n e1) = 0
    · rw [if_pos h3] at h
      by_cases h4 : wdF tx n (spF tx n e1) = 6050369
      · rw [if_pos h4] at h
        rcases hr2 : pnF tx n (-2) 2 (leF tx n (spF tx n e1)) with ⟨e2, x2⟩ | y
        · rw [hr2] at h; cases h
          have := pnF_ge hr2
          exact ⟨by omega, hW x2 (pnF_rng hr2)⟩
        · rw [hr2] at h; cases h
      · rw [if_neg h4] at h
        cases st
        · rw [if_neg (by decide)] at h; cases h; exact ⟨by omega, hW 0 (by omega)⟩
        · rw [if_pos rfl] at h; cases h
    · rw [if_neg h3] at h; cases h; exact ⟨by omega, hW 0 (by omega)⟩
  · unfold pSz at h; rw [if_neg h1, hr] at h; cases h
/-- a statement whose first word stands at a, without its end -/
noncomputable def pStm (st : Bool) (tx : F1) (n : Nat) (d : F1) (a : Nat) : (Nat × F1) ⊕ (Int × Nat) :=
  if wdF tx n a = 632645 then pSz st tx n d a (leF tx n a) else if wdF tx n a = 525908 then pRP tx n d (d 11).toNat a (leF tx n a)
  else if wdF tx n a = 298478 then pRI st tx n d (d 308).toNat a (leF tx n a) else .inr (-2, a)
theorem pStm_ok {st : Bool} {tx : F1} {n a e : Nat} {d d' : F1} (hw : WF d) (h : pStm st tx n d a = .inl (e, d')) : a ≤ e ∧ WF d' := by
  unfold pStm at h
  have g := leF_ge (tx := tx) (n := n) a
  have h11 := hw.2.1.1
  have h308 := hw.2.2.1
  by_cases h1 : wdF tx n a = 632645
  · rw [if_pos h1] at h
    have := pSz_ok hw h
    exact ⟨by omega, this.2.1⟩
  rw [if_neg h1] at h
  by_cases h2 : wdF tx n a = 525908
  · rw [if_pos h2] at h
    have := pRP_ok hw (by omega) h
    exact ⟨by omega, this.2.1⟩
  rw [if_neg h2] at h
  by_cases h3 : wdF tx n a = 298478
  · rw [if_pos h3] at h
    have := pRI_ok hw (by omega) h
    exact ⟨by omega, this.2.1⟩
  rw [if_neg h3] at h; cases h
noncomputable def pSet (st : Bool) (tx : F1) (n : Nat) : Nat → F1 → Nat → F1 ⊕ (Int × Nat)
  | 0, d, _ => .inl d
  | m + 1, d, p => if n ≤ spF tx n p then .inl d else match pStm st tx n d (spF tx n p) with
    | .inr x => .inr x
    | .inl (e, d') => if atF tx n (spF tx n e) = 59 then pSet st tx n m d' (spF tx n e + 1) else .inr (-2, spF tx n e)
theorem pSet_end {st : Bool} {tx : F1} {n m p : Nat} {d : F1} (h : n ≤ spF tx n p) : pSet st tx n m d p = .inl d := by
  cases m
  · rfl
  · rw [pSet]; exact if_pos h
theorem pSet_er {st : Bool} {tx : F1} {n m p : Nat} {d : F1} {x : Int × Nat} (h : ¬ n ≤ spF tx n p) (h2 : pStm st tx n d (spF tx n p) = .inr x) : pSet st tx n (m + 1) d p = .inr x := by
  rw [pSet, if_neg h, h2]
theorem pSet_no {st : Bool} {tx : F1} {n m p e : Nat} {d d' : F1} (h : ¬ n ≤ spF tx n p) (h2 : pStm st tx n d (spF tx n p) = .inl (e, d')) (h3 : atF tx n (spF tx n e) ≠ 59) : pSet st tx n (m + 1) d p = .inr (-2, spF tx n e) := by
  rw [pSet, if_neg h, h2]; exact if_neg h3
theorem pSet_s {st : Bool} {tx : F1} {n m p e : Nat} {d d' : F1} (h : ¬ n ≤ spF tx n p) (h2 : pStm st tx n d (spF tx n p) = .inl (e, d')) (h3 : atF tx n (spF tx n e) = 59) : pSet st tx n (m + 1) d p = pSet st tx n m d' (spF tx n e + 1) := by
  rw [pSet, if_neg h, h2]; exact if_pos h3
