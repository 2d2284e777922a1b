/-! WHAT HOLDS OF EVERY SET holds of the changed rows (printed by gen/g84.py) -/
def ShB (g : F1) (p s : Nat) : Prop := 0 ≤ g (37 * p + 6 * s + 13) ∧ g (37 * p + 6 * s + 13) ≤ 2 ∧ ∀ w : Nat, 1 ≤ w → w ≤ 5 → lowF (g (37 * p + 6 * s + 13)) w ≤ g (37 * p + 6 * s + w + 13) ∧ g (37 * p + 6 * s + w + 13) ≤ highF (g (37 * p + 6 * s + 13)) w
def PtB (g : F1) (p : Nat) : Prop := 1 ≤ g (37 * p + 12) ∧ g (37 * p + 12) ≤ 6 ∧ ∀ s : Nat, (s : Int) < g (37 * p + 12) → ShB g p s
def UsB (g : F1) (i u : Nat) : Prop := 0 ≤ g (19 * i + 3 * u + 310) ∧ g (19 * i + 3 * u + 310) < g 11 ∧ -48 ≤ g (19 * i + 3 * u + 311) ∧ g (19 * i + 3 * u + 311) ≤ 48 ∧ -48 ≤ g (19 * i + 3 * u + 312) ∧ g (19 * i + 3 * u + 312) ≤ 48
def IcB (g : F1) (i : Nat) : Prop := 0 ≤ g (19 * i + 309) ∧ g (19 * i + 309) ≤ 6 ∧ ∀ u : Nat, (u : Int) < g (19 * i + 309) → UsB g i u
theorem WS.eqv {g g' : F1} (h : WS g) (e : ∀ k, k < 11 → g' k = g k) : WS g' := by
  have e0 := e 0 (by omega)
  obtain ⟨h1, h2, h3, h4⟩ := h
  refine ⟨by rw [e0]; exact h1, by rw [e0]; exact h2, fun k hk => ?_, fun k hk => ?_⟩
  · rw [e0] at hk; rw [e (2 * k + 1) (by omega), e (2 * k + 2) (by omega)]; exact h3 k hk
  · rw [e0] at hk; rw [e (2 * k + 1) (by omega), e (2 * k + 3) (by omega)]; exact h4 k hk
theorem ShB.eqv {g g' : F1} {p s p' s' : Nat} (h : ShB g p s) (e : ∀ w, w ≤ 5 → g' (37 * p' + 6 * s' + w + 13) = g (37 * p + 6 * s + w + 13)) : ShB g' p' s' := by
  have h0 : g' (37 * p' + 6 * s' + 13) = g (37 * p + 6 * s + 13) := e 0 (by omega)
  obtain ⟨d1, d2, d3⟩ := h
  refine ⟨by rw [h0]; exact d1, by rw [h0]; exact d2, fun w w1 w5 => ?_⟩
  rw [h0, e w w5]; exact d3 w w1 w5
theorem UsB.eqv {g g' : F1} {i u i' u' : Nat} (h : UsB g i u) (e11 : g' 11 = g 11) (e : ∀ w, w ≤ 2 → g' (19 * i' + 3 * u' + w + 310) = g (19 * i + 3 * u + w + 310)) : UsB g' i' u' := by
  have h0 : g' (19 * i' + 3 * u' + 310) = g (19 * i + 3 * u + 310) := e 0 (by omega)
  have h1 : g' (19 * i' + 3 * u' + 311) = g (19 * i + 3 * u + 311) := by have := e 1 (by omega); rw [show 19 * i' + 3 * u' + 1 + 310 = 19 * i' + 3 * u' + 311 by omega, show 19 * i + 3 * u + 1 + 310 = 19 * i + 3 * u + 311 by omega] at this; exact this
  have h2 : g' (19 * i' + 3 * u' + 312) = g (19 * i + 3 * u + 312) := by have := e 2 (by omega); rw [show 19 * i' + 3 * u' + 2 + 310 = 19 * i' + 3 * u' + 312 by omega, show 19 * i + 3 * u + 2 + 310 = 19 * i + 3 * u + 312 by omega] at this; exact this
  unfold UsB at h ⊢
  rw [h0, h1, h2, e11]; exact h
theorem WP.one {g g' : F1} (h : WP g) (p : Nat) (e0 : g' 11 = g 11) (e : ∀ q k, q ≠ p → q < 8 → k < 37 → g' (37 * q + 12 + k) = g (37 * q + 12 + k)) (hb : PtB g' p) : WP g' := by
  obtain ⟨h1, h2, h3⟩ := h
  refine ⟨by rw [e0]; exact h1, by rw [e0]; exact h2, fun q hq => ?_⟩
  rw [e0] at hq
  by_cases hqp : q = p
  · subst hqp; exact hb
  · obtain ⟨c1, c2, c3⟩ := h3 q hq
    have ec : g' (37 * q + 12) = g (37 * q + 12) := e q 0 hqp (by omega) (by omega)
    refine ⟨by rw [ec]; exact c1, by rw [ec]; exact c2, fun s hs => ?_⟩
    rw [ec] at hs
    exact ShB.eqv (c3 s hs) (fun w hw => by
      have := e q (6 * s + w + 1) hqp (by omega) (by omega)
      rw [show 37 * q + 12 + (6 * s + w + 1) = 37 * q + 6 * s + w + 13 by omega] at this; exact this)
theorem WP.eqv {g g' : F1} (h : WP g) (e : ∀ k, 11 ≤ k → k < 308 → g' k = g k) : WP g' := by
  have e0 : g' 11 = g 11 := e 11 (by omega) (by omega)
  have h0 := h
  obtain ⟨h1, h2, h3⟩ := h0
  refine ⟨by rw [e0]; exact h1, by rw [e0]; exact h2, fun q hq => ?_⟩
  rw [e0] at hq
  obtain ⟨c1, c2, c3⟩ := h3 q hq
  have ec : g' (37 * q + 12) = g (37 * q + 12) := e _ (by omega) (by omega)
  refine ⟨by rw [ec]; exact c1, by rw [ec]; exact c2, fun s hs => ?_⟩
  rw [ec] at hs
  exact ShB.eqv (c3 s hs) (fun w hw => e _ (by omega) (by omega))
theorem WI.one {g g' : F1} (h : WI g) (i : Nat) (e0 : g' 308 = g 308) (e11 : g' 11 = g 11) (e : ∀ q k, q ≠ i → q < 8 → k < 19 → g' (19 * q + 309 + k) = g (19 * q + 309 + k)) (hb : IcB g' i) : WI g' := by
  obtain ⟨h1, h2, h3⟩ := h
  refine ⟨by rw [e0]; exact h1, by rw [e0]; exact h2, fun q hq => ?_⟩
  rw [e0] at hq
  by_cases hqp : q = i
  · subst hqp; exact hb
  · obtain ⟨c1, c2, c3⟩ := h3 q hq
    have ec : g' (19 * q + 309) = g (19 * q + 309) := e q 0 hqp (by omega) (by omega)
    refine ⟨by rw [ec]; exact c1, by rw [ec]; exact c2, fun s hs => ?_⟩
    rw [ec] at hs
    exact UsB.eqv (c3 s hs) e11 (fun w hw => by
      have := e q (3 * s + w + 1) hqp (by omega) (by omega)
      rw [show 19 * q + 309 + (3 * s + w + 1) = 19 * q + 3 * s + w + 310 by omega] at this; exact this)
theorem WI.eqv {g g' : F1} (h : WI g) (e11 : g' 11 = g 11) (e : ∀ k, 308 ≤ k → k < 461 → g' k = g k) : WI g' := by
  have e0 : g' 308 = g 308 := e 308 (by omega) (by omega)
  obtain ⟨h1, h2, h3⟩ := h
  refine ⟨by rw [e0]; exact h1, by rw [e0]; exact h2, fun q hq => ?_⟩
  rw [e0] at hq
  obtain ⟨c1, c2, c3⟩ := h3 q hq
  have ec : g' (19 * q + 309) = g (19 * q + 309) := e _ (by omega) (by omega)
  refine ⟨by rw [ec]; exact c1, by rw [ec]; exact c2, fun s hs => ?_⟩
  rw [ec] at hs
  exact UsB.eqv (c3 s hs) e11 (fun w hw => e _ (by omega) (by omega))
/-- sizes -/
theorem WF.ext {g : F1} (h : WF g) {k : Nat} {z : Int} (hk : (k : Int) < g 0) (hz : -2 ≤ z ∧ z ≤ 2) : WF (upd1 g (2 * k + 2) z) := by
  have h5 := h.1.2.1
  refine ⟨?_, h.2.1.eqv (fun q h1 h2 => upd1_ne _ _ _ (by omega)), h.2.2.eqv (upd1_ne _ _ _ (by omega)) (fun q h1 h2 => upd1_ne _ _ _ (by omega))⟩
  obtain ⟨h1, h2, h3, h4⟩ := h.1
  have e0 : upd1 g (2 * k + 2) z 0 = g 0 := upd1_ne _ _ _ (by omega)
  refine ⟨by rw [e0]; exact h1, by rw [e0]; exact h2, fun j hj => ?_, fun j hj => ?_⟩
  · rw [e0] at hj
    have h9 := h3 j hj
    rw [upd1_ne _ _ _ (show 2 * j + 1 ≠ 2 * k + 2 by omega)]
    by_cases e : j = k
    · rw [e, upd1_same]; rw [e] at h9; omega
    · rw [upd1_ne _ _ _ (show 2 * j + 2 ≠ 2 * k + 2 by omega)]; exact h9
  · rw [e0] at hj
    rw [upd1_ne _ _ _ (show 2 * j + 1 ≠ 2 * k + 2 by omega), upd1_ne _ _ _ (show 2 * j + 3 ≠ 2 * k + 2 by omega)]; exact h4 j hj
theorem remF_lo {g : F1} {s n k : Nat} (h0 : k ≠ 0) (h : k < 2 * s + 1) : remF g s n k = g k := by unfold remF; rw [if_neg h0, if_neg (by omega)]
theorem remF_hi {g : F1} {s n k : Nat} (h : 2 * s + 1 ≤ k) (h2 : k < 2 * (n - 1) + 1) : remF g s n k = g (k + 2) := by unfold remF; rw [if_neg (by omega), if_pos ⟨h, h2⟩]
theorem remF_far {g : F1} {s n k : Nat} (h0 : k ≠ 0) (h : 2 * (n - 1) + 1 ≤ k) : remF g s n k = g k := by unfold remF; rw [if_neg h0, if_neg (by omega)]
theorem WF.rem {g : F1} (h : WF g) {s n : Nat} (hn : g 0 = (n : Int)) (hs : s < n) : WF (remF g s n) := by
  have h5 := h.1.2.1
  refine ⟨?_, h.2.1.eqv (fun q h1 h2 => remF_far (by omega) (by omega)), h.2.2.eqv (remF_far (by omega) (by omega)) (fun q h1 h2 => remF_far (by omega) (by omega))⟩
  obtain ⟨h1, h2, h3, h4⟩ := h.1
  have e0 : remF g s n 0 = ((n - 1 : Nat) : Int) := if_pos rfl
  refine ⟨by rw [e0]; omega, by rw [e0]; omega, fun j hj => ?_, fun j hj => ?_⟩
  · rw [e0] at hj
    by_cases e : j < s
    · rw [remF_lo (by omega) (by omega)]
      by_cases e2 : 2 * j + 2 < 2 * s + 1
      · rw [remF_lo (by omega) e2]; exact h3 j (by omega)
      · omega
    · rw [remF_hi (by omega) (by omega), remF_hi (by omega) (by omega)]
      have := h3 (j + 1) (by omega)
      rw [show 2 * (j + 1) + 1 = 2 * j + 1 + 2 by omega, show 2 * (j + 1) + 2 = 2 * j + 2 + 2 by omega] at this; exact this
  · rw [e0] at hj
    have a1 := h4 j (by omega)
    have a2 := h4 (j + 1) (by omega)
    rw [show 2 * (j + 1) + 1 = 2 * j + 3 by omega, show 2 * (j + 1) + 3 = 2 * j + 5 by omega] at a2
    by_cases e : j < s
    · rw [remF_lo (by omega) (by omega)]
      by_cases e2 : j + 1 < s
      · rw [remF_lo (by omega) (by omega)]; exact a1
      · rw [remF_hi (by omega) (by omega)]; show g (2 * j + 1) < g (2 * j + 5); omega
    · rw [remF_hi (by omega) (by omega), remF_hi (by omega) (by omega)]; exact a2
theorem insF_lo {g : F1} {pl n k : Nat} {x e : Int} (h0 : k ≠ 0) (h : k < 2 * pl + 1) : insF g pl n x e k = g k := by unfold insF; rw [if_neg h0, if_neg (by omega), if_neg (by omega), if_neg (by omega)]
theorem insF_p {g : F1} {pl n : Nat} {x e : Int} : insF g pl n x e (2 * pl + 1) = x := by unfold insF; rw [if_neg (by omega), if_pos rfl]
theorem insF_e {g : F1} {pl n : Nat} {x e : Int} : insF g pl n x e (2 * pl + 2) = e := by unfold insF; rw [if_neg (by omega), if_neg (by omega), if_pos rfl]
theorem insF_hi {g : F1} {pl n k : Nat} {x e : Int} (h : 2 * pl + 3 ≤ k) (h2 : k < 2 * n + 3) : insF g pl n x e k = g (k - 2) := by unfold insF; rw [if_neg (by omega), if_neg (by omega), if_neg (by omega), if_pos ⟨h, h2⟩]
theorem insF_far {g : F1} {pl n k : Nat} {x e : Int} (hp : pl ≤ n) (h : 2 * n + 3 ≤ k) : insF g pl n x e k = g k := by unfold insF; rw [if_neg (by omega), if_neg (by omega), if_neg (by omega), if_neg (by omega)]
theorem WS.ins {g : F1} (h : WS g) {pl n : Nat} {x e : Int} (hn : g 0 = (n : Int)) (hn5 : n < 5) (hp : pl ≤ n) (hx : 4 ≤ x ∧ x ≤ 32) (he : -2 ≤ e ∧ e ≤ 2) (a2 : pl = 0 ∨ g (2 * (pl - 1) + 1) < x) (a3 : ∀ j, pl ≤ j → j < n → x < g (2 * j + 1)) : WS (insF g pl n x e) := by
  obtain ⟨h1, h2, h3, h4⟩ := h
  have e0 : insF g pl n x e 0 = (n : Int) + 1 := if_pos rfl
  refine ⟨by rw [e0]; omega, by rw [e0]; omega, fun j hj => ?_, fun j hj => ?_⟩
  · rw [e0] at hj
    rcases Nat.lt_trichotomy j pl with q | q | q
    · rw [insF_lo (by omega) (by omega), insF_lo (by omega) (by omega)]; exact h3 j (by omega)
    · rw [q, insF_p, insF_e]; omega
    · rw [insF_hi (by omega) (by omega), insF_hi (by omega) (by omega)]
      have := h3 (j - 1) (by omega)
      rw [show 2 * (j - 1) + 1 = 2 * j + 1 - 2 by omega, show 2 * (j - 1) + 2 = 2 * j + 2 - 2 by omega] at this; exact this
  · rw [e0] at hj
    rcases Nat.lt_trichotomy (j + 1) pl with q | q | q
    · rw [insF_lo (by omega) (by omega), insF_lo (by omega) (by omega)]; exact h4 j (by omega)
    · rw [insF_lo (by omega) (by omega), show 2 * j + 3 = 2 * pl + 1 by omega, insF_p]
      rcases a2 with q2 | q2
      · omega
      · rw [show 2 * (pl - 1) + 1 = 2 * j + 1 by omega] at q2; exact q2
    · rw [insF_hi (k := 2 * j + 3) (by omega) (by omega)]
      by_cases q3 : j = pl
      · rw [q3, insF_p, show 2 * pl + 3 - 2 = 2 * pl + 1 by omega]; exact a3 pl (by omega) (by omega)
      · rw [insF_hi (by omega) (by omega)]
        have := h4 (j - 1) (by omega)
        rw [show 2 * (j - 1) + 1 = 2 * j + 1 - 2 by omega, show 2 * (j - 1) + 3 = 2 * j + 3 - 2 by omega] at this; exact this
theorem WF.ins {g : F1} (h : WF g) {pl n : Nat} {x e : Int} (hn : g 0 = (n : Int)) (hn5 : n < 5) (hp : pl ≤ n) (hx : 4 ≤ x ∧ x ≤ 32) (he : -2 ≤ e ∧ e ≤ 2) (a2 : pl = 0 ∨ g (2 * (pl - 1) + 1) < x) (a3 : ∀ j, pl ≤ j → j < n → x < g (2 * j + 1)) : WF (insF g pl n x e) := by
  exact ⟨h.1.ins hn hn5 hp hx he a2 a3, h.2.1.eqv (fun q h1 h2 => insF_far hp (by omega)), h.2.2.eqv (insF_far hp (by omega)) (fun q h1 h2 => insF_far hp (by omega))⟩
theorem ne37 {p q k s w : Nat} (h : q ≠ p) (hk : k < 37) (hs : s ≤ 5) (hw : w ≤ 5) : 37 * q + 12 + k ≠ 37 * p + 6 * s + w + 13 := by
  rcases Nat.lt_or_gt_of_ne h with h | h <;> omega
theorem ne19 {p q k s w : Nat} (h : q ≠ p) (hk : k < 19) (hs : s ≤ 5) (hw : w ≤ 2) : 19 * q + 309 + k ≠ 19 * p + 3 * s + w + 310 := by
  rcases Nat.lt_or_gt_of_ne h with h | h <;> omega
theorem WF.ofP {g g' : F1} (h : WF g) (hp : WP g') (e : ∀ k, k < 12 ∨ 308 ≤ k → g' k = g k) : WF g' := ⟨h.1.eqv (fun k hk => e k (by omega)), hp, h.2.2.eqv (e 11 (by omega)) (fun k h1 h2 => e k (by omega))⟩
theorem WF.ofI {g g' : F1} (h : WF g) (hi : WI g') (e : ∀ k, k < 308 → g' k = g k) : WF g' := ⟨h.1.eqv (fun k hk => e k (by omega)), h.2.1.eqv (fun k h1 h2 => e k (by omega)), hi⟩
theorem WP.set {g : F1} (h : WP g) {p s v : Nat} {x : Int} (hp : (p : Int) < g 11) (hs : (s : Int) < g (37 * p + 12)) (hv : 1 ≤ v ∧ v ≤ 5) (hf : fitP (g (37 * p + 6 * s + 13)) (v : Int) x) : WP (upd1 g (37 * p + 6 * s + v + 13) x) := by
  have h8 := h.2.1
  obtain ⟨c1, c2, c3⟩ := h.2.2 p hp
  refine h.one p (upd1_ne _ _ _ (by omega)) (fun q k h1 _ h2 => upd1_ne _ _ _ (ne37 h1 h2 (by omega) (by omega))) ?_
  have ec : upd1 g (37 * p + 6 * s + v + 13) x (37 * p + 12) = g (37 * p + 12) := upd1_ne _ _ _ (by omega)
  refine ⟨by rw [ec]; exact c1, by rw [ec]; exact c2, fun t ht => ?_⟩
  rw [ec] at ht
  by_cases e : t = s
  · obtain ⟨d1, d2, d3⟩ := c3 s hs
    have e0 : upd1 g (37 * p + 6 * s + v + 13) x (37 * p + 6 * s + 13) = g (37 * p + 6 * s + 13) := upd1_ne _ _ _ (by omega)
    rw [e]
    refine ⟨by rw [e0]; exact d1, by rw [e0]; exact d2, fun w w1 w5 => ?_⟩
    rw [e0]
    by_cases e2 : w = v
    · rw [e2, upd1_same]; exact hf
    · rw [upd1_ne _ _ _ (by omega)]; exact d3 w w1 w5
  · exact ShB.eqv (c3 t ht) (fun w hw => upd1_ne _ _ _ (by rcases Nat.lt_or_gt_of_ne e with q | q <;> omega))
theorem WF.set {g : F1} (h : WF g) {p s v : Nat} {x : Int} (hp : (p : Int) < g 11) (hs : (s : Int) < g (37 * p + 12)) (hv : 1 ≤ v ∧ v ≤ 5) (hf : fitP (g (37 * p + 6 * s + 13)) (v : Int) x) : WF (upd1 g (37 * p + 6 * s + v + 13) x) := by
  have h8 := h.2.1.2.1
  have h6 := (h.2.1.2.2 p hp).2.1
  exact h.ofP (h.2.1.set hp hs hv hf) (fun k hk => upd1_ne _ _ _ (by omega))
theorem canP_at {g : F1} {p s : Nat} {x y : Int} (hc : canP g p s x y) : ∀ w : Nat, 1 ≤ w → w ≤ 5 → fitP (g (37 * p + 6 * s + 13)) w (g (37 * p + 6 * s + w + 13) + goF (g (37 * p + 6 * s + 13)) w x y) := by
  intro w w1 w5
  obtain ⟨a1, a2, a3, a4, a5⟩ := hc
  rcases (show w = 1 ∨ w = 2 ∨ w = 3 ∨ w = 4 ∨ w = 5 by omega) with rfl | rfl | rfl | rfl | rfl
  · exact a1
  · exact a2
  · exact a3
  · exact a4
  · exact a5
theorem goF_0 (kd x y : Int) : goF kd 0 x y = 0 := by
  unfold goF; rw [if_neg (by omega), if_neg (by omega)]
/-- shape t becomes shape s moved -/
theorem WP.mv {g : F1} (h : WP g) {p s t : Nat} {x y : Int} (hp : (p : Int) < g 11) (hs : (s : Int) < g (37 * p + 12)) (ht : (t : Int) < g (37 * p + 12)) (hc : canP g p s x y) : WP (wrS g (37 * p + 6 * t + 13) 6 (fun j => g (37 * p + 6 * s + j + 13) + goF (g (37 * p + 6 * s + 13)) (j : Int) x y)) := by
  have h8 := h.2.1
  obtain ⟨c1, c2, c3⟩ := h.2.2 p hp
  refine h.one p (wrS_out (by omega)) (fun q k h1 _ h2 => wrS_out (by rcases Nat.lt_or_gt_of_ne h1 with h3 | h3 <;> omega)) ?_
  have ec := wrS_out (g := g) (lo := 37 * p + 6 * t + 13) (w := 6) (k := 37 * p + 12) (v := fun j => g (37 * p + 6 * s + j + 13) + goF (g (37 * p + 6 * s + 13)) (j : Int) x y) (by omega)
  refine ⟨by rw [ec]; exact c1, by rw [ec]; exact c2, fun r hr => ?_⟩
  rw [ec] at hr
  by_cases e : r = t
  · obtain ⟨d1, d2, d3⟩ := c3 s hs
    have ew : ∀ w : Nat, w ≤ 5 → wrS g (37 * p + 6 * t + 13) 6 (fun j => g (37 * p + 6 * s + j + 13) + goF (g (37 * p + 6 * s + 13)) (j : Int) x y) (37 * p + 6 * t + w + 13) = g (37 * p + 6 * s + w + 13) + goF (g (37 * p + 6 * s + 13)) (w : Int) x y := fun w hw => by
      rw [show 37 * p + 6 * t + w + 13 = 37 * p + 6 * t + 13 + w by omega]; exact wrS_in (by omega)
    have e0 : wrS g (37 * p + 6 * t + 13) 6 (fun j => g (37 * p + 6 * s + j + 13) + goF (g (37 * p + 6 * s + 13)) (j : Int) x y) (37 * p + 6 * t + 13) = g (37 * p + 6 * s + 13) := by
      have := ew 0 (by omega)
      rw [show ((0 : Nat) : Int) = 0 from rfl, goF_0] at this
      rw [show 37 * p + 6 * t + 0 + 13 = 37 * p + 6 * t + 13 by omega, show 37 * p + 6 * s + 0 + 13 = 37 * p + 6 * s + 13 by omega] at this
      omega
    rw [e]
    refine ⟨by rw [e0]; exact d1, by rw [e0]; exact d2, fun w w1 w5 => ?_⟩
    rw [e0, ew w w5]; exact canP_at hc w w1 w5
  · exact ShB.eqv (c3 r hr) (fun w hw => wrS_out (by rcases Nat.lt_or_gt_of_ne e with q | q <;> omega))
theorem WF.mv {g : F1} (h : WF g) {p s t : Nat} {x y : Int} (hp : (p : Int) < g 11) (hs : (s : Int) < g (37 * p + 12)) (ht : (t : Int) < g (37 * p + 12)) (hc : canP g p s x y) : WF (wrS g (37 * p + 6 * t + 13) 6 (fun j => g (37 * p + 6 * s + j + 13) + goF (g (37 * p + 6 * s + 13)) (j : Int) x y)) := by
  have h8 := h.2.1.2.1
  have h6 := (h.2.1.2.2 p hp).2.1
  exact h.ofP (h.2.1.mv hp hs ht hc) (fun k hk => wrS_out (by omega))
/-- shape s again as the last one -/
def cpF1 (g : F1) (p s n : Nat) : F1 := upd1 (wrS g (37 * p + 6 * n + 13) 6 (fun j => g (37 * p + 6 * s + j + 13))) (37 * p + 12) ((n : Int) + 1)
theorem cpF1_cnt {g : F1} {p s n : Nat} : cpF1 g p s n (37 * p + 12) = (n : Int) + 1 := upd1_same _ _ _
theorem cpF1_new {g : F1} {p s n w : Nat} (hw : w < 6) : cpF1 g p s n (37 * p + 6 * n + w + 13) = g (37 * p + 6 * s + w + 13) := by
  unfold cpF1; rw [upd1_ne _ _ _ (by omega), show 37 * p + 6 * n + w + 13 = 37 * p + 6 * n + 13 + w by omega, wrS_in hw]
theorem cpF1_out {g : F1} {p s n k : Nat} (h : k < 37 * p + 6 * n + 13 ∨ 37 * p + 6 * n + 19 ≤ k) (h2 : k ≠ 37 * p + 12) : cpF1 g p s n k = g k := by
  unfold cpF1; rw [upd1_ne _ _ _ h2, wrS_out (by omega)]
theorem WP.cp {g : F1} (h : WP g) {p s n : Nat} (hp : (p : Int) < g 11) (hn : g (37 * p + 12) = (n : Int)) (hs : s < n) (hn6 : n < 6) : WP (cpF1 g p s n) := by
  have h8 := h.2.1
  obtain ⟨c1, c2, c3⟩ := h.2.2 p hp
  refine h.one p (cpF1_out (by omega) (by omega)) (fun q k h1 _ h2 => cpF1_out (by rcases Nat.lt_or_gt_of_ne h1 with h3 | h3 <;> omega) (by rcases Nat.lt_or_gt_of_ne h1 with h3 | h3 <;> omega)) ?_
  refine ⟨by rw [cpF1_cnt]; omega, by rw [cpF1_cnt]; omega, fun r hr => ?_⟩
  rw [cpF1_cnt] at hr
  by_cases e : r = n
  · rw [e]; exact ShB.eqv (c3 s (by omega)) (fun w hw => cpF1_new (by omega))
  · exact ShB.eqv (c3 r (by omega)) (fun w hw => cpF1_out (by omega) (by omega))
theorem cp_eq {g : F1} {p s n : Nat} {x y : Int} (hs : s < n) (hn6 : n < 6) : wrS (cpF1 g p s n) (37 * p + 6 * n + 13) 6 (fun j => cpF1 g p s n (37 * p + 6 * n + j + 13) + goF (cpF1 g p s n (37 * p + 6 * n + 13)) (j : Int) x y) = wrS (addZ g (37 * p + 12) (37 * p + 6 * n + 13) 6 ((n : Int) + 1)) (37 * p + 6 * n + 13) 6 (fun j => (addZ g (37 * p + 12) (37 * p + 6 * n + 13) 6 ((n : Int) + 1)) (37 * p + 6 * s + j + 13) + goF ((addZ g (37 * p + 12) (37 * p + 6 * n + 13) 6 ((n : Int) + 1)) (37 * p + 6 * s + 13)) (j : Int) x y) := by
  have ea : ∀ w : Nat, w < 6 → addZ g (37 * p + 12) (37 * p + 6 * n + 13) 6 ((n : Int) + 1) (37 * p + 6 * s + w + 13) = g (37 * p + 6 * s + w + 13) := fun w hw => by unfold addZ; rw [if_neg (by omega), if_neg (by omega)]
  funext k
  by_cases h : 37 * p + 6 * n + 13 ≤ k ∧ k < 37 * p + 6 * n + 13 + 6
  · obtain ⟨j, rfl⟩ : ∃ j, k = 37 * p + 6 * n + 13 + j := ⟨k - (37 * p + 6 * n + 13), by omega⟩
    rw [wrS_in (by omega), wrS_in (by omega)]
    have e1 := cpF1_new (g := g) (p := p) (s := s) (n := n) (w := j) (by omega)
    have e2 := cpF1_new (g := g) (p := p) (s := s) (n := n) (w := 0) (by omega)
    have e3 := ea j (by omega)
    have e4 := ea 0 (by omega)
    rw [Nat.add_zero] at e2 e4
    rw [Nat.add_zero] at e2
    show cpF1 g p s n (37 * p + 6 * n + j + 13) + goF (cpF1 g p s n (37 * p + 6 * n + 13)) j x y = _
    rw [e1, e2, e3, e4]
  · rw [wrS_out (by omega), wrS_out (by omega)]
    unfold addZ
    by_cases h2 : k = 37 * p + 12
    · rw [if_pos h2, h2, cpF1_cnt]
    · rw [if_neg h2, if_neg h, cpF1_out (by omega) h2]
theorem WF.cp {g : F1} (h : WF g) {p s n : Nat} {x y : Int} (hp : (p : Int) < g 11) (hn : g (37 * p + 12) = (n : Int)) (hs : s < n) (hn6 : n < 6) (hc : canP g p s x y) : WF (wrS (cpF1 g p s n) (37 * p + 6 * n + 13) 6 (fun j => cpF1 g p s n (37 * p + 6 * n + j + 13) + goF (cpF1 g p s n (37 * p + 6 * n + 13)) (j : Int) x y)) := by
  have h8 := h.2.1.2.1
  have h1 := h.2.1.cp hp hn hs hn6
  have e11 : cpF1 g p s n 11 = g 11 := cpF1_out (by omega) (by omega)
  have hw : WF (cpF1 g p s n) := h.ofP h1 (fun k hk => cpF1_out (by omega) (by omega))
  have hc2 : canP (cpF1 g p s n) p n x y := by
    have ew := fun (w : Nat) (hw : w < 6) => cpF1_new (g := g) (p := p) (s := s) (n := n) (w := w) hw
    have e0 : cpF1 g p s n (37 * p + 6 * n + 13) = g (37 * p + 6 * s + 13) := ew 0 (by omega)
    have e1 : cpF1 g p s n (37 * p + 6 * n + 14) = g (37 * p + 6 * s + 14) := ew 1 (by omega)
    have e2 : cpF1 g p s n (37 * p + 6 * n + 15) = g (37 * p + 6 * s + 15) := ew 2 (by omega)
    have e3 : cpF1 g p s n (37 * p + 6 * n + 16) = g (37 * p + 6 * s + 16) := ew 3 (by omega)
    have e4 : cpF1 g p s n (37 * p + 6 * n + 17) = g (37 * p + 6 * s + 17) := ew 4 (by omega)
    have e5 : cpF1 g p s n (37 * p + 6 * n + 18) = g (37 * p + 6 * s + 18) := ew 5 (by omega)
    unfold canP at hc ⊢
    rw [e0, e1, e2, e3, e4, e5]; exact hc
  exact hw.mv (by rw [e11]; exact hp) (by rw [cpF1_cnt]; omega) (by rw [cpF1_cnt]; omega) hc2
theorem shD_in {g : F1} {lo hi st k : Nat} (h : lo ≤ k) (h2 : k < hi) : shD g lo hi st k = g (k + st) := by unfold shD; rw [if_pos ⟨h, h2⟩]
theorem WP.dr {g : F1} (h : WP g) {p s n : Nat} (hp : (p : Int) < g 11) (hn : g (37 * p + 12) = (n : Int)) (hs : s < n) (hn1 : 1 < n) : WP (upd1 (shD g (37 * p + 6 * s + 13) (37 * p + 6 * (n - 1) + 13) 6) (37 * p + 12) ((n - 1 : Nat) : Int)) := by
  have h8 := h.2.1
  obtain ⟨c1, c2, c3⟩ := h.2.2 p hp
  refine h.one p ((upd1_ne _ _ _ (by omega)).trans (shD_out (by omega))) (fun q k h1 _ h2 => (upd1_ne _ _ _ (by rcases Nat.lt_or_gt_of_ne h1 with h3 | h3 <;> omega)).trans (shD_out (by rcases Nat.lt_or_gt_of_ne h1 with h3 | h3 <;> omega))) ?_
  have ec := upd1_same (shD g (37 * p + 6 * s + 13) (37 * p + 6 * (n - 1) + 13) 6) (37 * p + 12) ((n - 1 : Nat) : Int)
  refine ⟨by rw [ec]; omega, by rw [ec]; omega, fun r hr => ?_⟩
  rw [ec] at hr
  by_cases e : r < s
  · exact ShB.eqv (c3 r (by omega)) (fun w hw => (upd1_ne _ _ _ (by omega)).trans (shD_out (by omega)))
  · refine ShB.eqv (c3 (r + 1) (by omega)) (fun w hw => (upd1_ne _ _ _ (by omega)).trans ((shD_in (by omega) (by omega)).trans ?_))
    rw [show 37 * p + 6 * r + w + 13 + 6 = 37 * p + 6 * (r + 1) + w + 13 by omega]
theorem WF.dr {g : F1} (h : WF g) {p s n : Nat} (hp : (p : Int) < g 11) (hn : g (37 * p + 12) = (n : Int)) (hs : s < n) (hn1 : 1 < n) : WF (upd1 (shD g (37 * p + 6 * s + 13) (37 * p + 6 * (n - 1) + 13) 6) (37 * p + 12) ((n - 1 : Nat) : Int)) := by
  have h8 := h.2.1.2.1
  have h6 := (h.2.1.2.2 p hp).2.1
  exact h.ofP (h.2.1.dr hp hn hs hn1) (fun k hk => (upd1_ne _ _ _ (by omega)).trans (shD_out (by omega)))
/-- uses -/
theorem WF.du {g : F1} (h : WF g) {p s n : Nat} (hp : (p : Int) < g 308) (hn : g (19 * p + 309) = (n : Int)) (hs : s < n) : WF (upd1 (shD g (19 * p + 3 * s + 310) (19 * p + 3 * (n - 1) + 310) 3) (19 * p + 309) ((n - 1 : Nat) : Int)) := by
  have hi := h.2.2
  have h8 := hi.2.1
  obtain ⟨c1, c2, c3⟩ := hi.2.2 p hp
  refine h.ofI ?_ (fun k hk => (upd1_ne _ _ _ (by omega)).trans (shD_out (by omega)))
  have e11 : upd1 (shD g (19 * p + 3 * s + 310) (19 * p + 3 * (n - 1) + 310) 3) (19 * p + 309) ((n - 1 : Nat) : Int) 11 = g 11 := (upd1_ne _ _ _ (by omega)).trans (shD_out (by omega))
  refine hi.one p ((upd1_ne _ _ _ (by omega)).trans (shD_out (by omega))) e11 (fun q k h1 _ h2 => (upd1_ne _ _ _ (by rcases Nat.lt_or_gt_of_ne h1 with h3 | h3 <;> omega)).trans (shD_out (by rcases Nat.lt_or_gt_of_ne h1 with h3 | h3 <;> omega))) ?_
  have ec := upd1_same (shD g (19 * p + 3 * s + 310) (19 * p + 3 * (n - 1) + 310) 3) (19 * p + 309) ((n - 1 : Nat) : Int)
  refine ⟨by rw [ec]; omega, by rw [ec]; omega, fun r hr => ?_⟩
  rw [ec] at hr
  by_cases e : r < s
  · exact UsB.eqv (c3 r (by omega)) e11 (fun w hw => (upd1_ne _ _ _ (by omega)).trans (shD_out (by omega)))
  · refine UsB.eqv (c3 (r + 1) (by omega)) e11 (fun w hw => (upd1_ne _ _ _ (by omega)).trans ((shD_in (by omega) (by omega)).trans ?_))
    rw [show 19 * p + 3 * r + w + 310 + 3 = 19 * p + 3 * (r + 1) + w + 310 by omega]
theorem WI.mu {g : F1} (h : WI g) {p s : Nat} {x y : Int} (hp : (p : Int) < g 308) (hs : (s : Int) < g (19 * p + 309)) (hx : -48 ≤ x ∧ x ≤ 48) (hy : -48 ≤ y ∧ y ≤ 48) : WI (upd1 (upd1 g (19 * p + 3 * s + 1 + 310) x) (19 * p + 3 * s + 2 + 310) y) := by
  have h8 := h.2.1
  obtain ⟨c1, c2, c3⟩ := h.2.2 p hp
  have eo : ∀ k, k ≠ 19 * p + 3 * s + 1 + 310 → k ≠ 19 * p + 3 * s + 2 + 310 → upd1 (upd1 g (19 * p + 3 * s + 1 + 310) x) (19 * p + 3 * s + 2 + 310) y k = g k := fun k h1 h2 => (upd1_ne _ _ _ h2).trans (upd1_ne _ _ _ h1)
  have e11 := eo 11 (by omega) (by omega)
  refine h.one p (eo 308 (by omega) (by omega)) e11 (fun q k h1 _ h2 => eo _ (ne19 h1 h2 (by omega) (by omega)) (ne19 h1 h2 (by omega) (by omega))) ?_
  have ec := eo (19 * p + 309) (by omega) (by omega)
  refine ⟨by rw [ec]; exact c1, by rw [ec]; exact c2, fun r hr => ?_⟩
  rw [ec] at hr
  by_cases e : r = s
  · rw [e]
    obtain ⟨d1, d2, d3⟩ := c3 s hs
    have e0 := eo (19 * p + 3 * s + 310) (by omega) (by omega)
    have e1 : upd1 (upd1 g (19 * p + 3 * s + 1 + 310) x) (19 * p + 3 * s + 2 + 310) y (19 * p + 3 * s + 311) = x := (upd1_ne _ _ _ (by omega)).trans (by rw [show 19 * p + 3 * s + 311 = 19 * p + 3 * s + 1 + 310 by omega, upd1_same])
    have e2 : upd1 (upd1 g (19 * p + 3 * s + 1 + 310) x) (19 * p + 3 * s + 2 + 310) y (19 * p + 3 * s + 312) = y := by rw [show 19 * p + 3 * s + 312 = 19 * p + 3 * s + 2 + 310 by omega, upd1_same]
    unfold UsB
    rw [e0, e1, e2, e11]
    exact ⟨d1, d2, hx.1, hx.2, hy.1, hy.2⟩
  · exact UsB.eqv (c3 r hr) e11 (fun w hw => eo _ (by rcases Nat.lt_or_gt_of_ne e with q | q <;> omega) (by rcases Nat.lt_or_gt_of_ne e with q | q <;> omega))
theorem WF.mu {g : F1} (h : WF g) {p s : Nat} {x y : Int} (hp : (p : Int) < g 308) (hs : (s : Int) < g (19 * p + 309)) (hx : -48 ≤ x ∧ x ≤ 48) (hy : -48 ≤ y ∧ y ≤ 48) : WF (upd1 (upd1 g (19 * p + 3 * s + 1 + 310) x) (19 * p + 3 * s + 2 + 310) y) := h.ofI (h.2.2.mu hp hs hx hy) (fun k hk => (upd1_ne _ _ _ (by omega)).trans (upd1_ne _ _ _ (by omega)))
/-- a use more -/
def auF (g : F1) (p n : Nat) (t x y : Int) : F1 := upd1 (upd1 (upd1 (upd1 g (19 * p + 3 * n + 310) t) (19 * p + 3 * n + 311) x) (19 * p + 3 * n + 312) y) (19 * p + 309) ((n : Int) + 1)
theorem auF_out {g : F1} {p n k : Nat} {t x y : Int} (h0 : k ≠ 19 * p + 309) (h : k < 19 * p + 3 * n + 310 ∨ 19 * p + 3 * n + 313 ≤ k) : auF g p n t x y k = g k := by
  unfold auF; rw [upd1_ne _ _ _ h0, upd1_ne _ _ _ (by omega), upd1_ne _ _ _ (by omega), upd1_ne _ _ _ (by omega)]
theorem auF_eq {g : F1} {p n : Nat} {t x y : Int} : auF g p n t x y = upd1 (upd1 (upd1 (addZ g (19 * p + 309) (19 * p + 3 * n + 310) 3 ((n : Int) + 1)) (19 * p + 3 * n + 0 + 310) t) (19 * p + 3 * n + 1 + 310) x) (19 * p + 3 * n + 2 + 310) y := by
  rw [show 19 * p + 3 * n + 0 + 310 = 19 * p + 3 * n + 310 by omega, show 19 * p + 3 * n + 1 + 310 = 19 * p + 3 * n + 311 by omega, show 19 * p + 3 * n + 2 + 310 = 19 * p + 3 * n + 312 by omega]
  funext k
  unfold auF upd1 addZ
  by_cases h1 : k = 19 * p + 309
  · rw [if_pos h1, if_neg (show ¬ k = 19 * p + 3 * n + 312 by omega), if_neg (show ¬ k = 19 * p + 3 * n + 311 by omega), if_neg (show ¬ k = 19 * p + 3 * n + 310 by omega), if_pos h1]
  · rw [if_neg h1]
    by_cases h2 : k = 19 * p + 3 * n + 312
    · rw [if_pos h2, if_pos h2]
    · rw [if_neg h2, if_neg h2]
      by_cases h3 : k = 19 * p + 3 * n + 311
      · rw [if_pos h3, if_pos h3]
      · rw [if_neg h3, if_neg h3]
        by_cases h4 : k = 19 * p + 3 * n + 310
        · rw [if_pos h4, if_pos h4]
        · rw [if_neg h4, if_neg h4, if_neg h1, if_neg (by omega)]
theorem WF.au {g : F1} (h : WF g) {p t n : Nat} {x y : Int} (hp : (p : Int) < g 308) (ht : (t : Int) < g 11) (hx : -48 ≤ x ∧ x ≤ 48) (hy : -48 ≤ y ∧ y ≤ 48) (hn : g (19 * p + 309) = (n : Int)) (hn6 : n < 6) : WF (auF g p n t x y) := by
  have hi := h.2.2
  have h8 := hi.2.1
  obtain ⟨c1, c2, c3⟩ := hi.2.2 p hp
  refine h.ofI ?_ (fun k hk => auF_out (by omega) (by omega))
  have e11 : auF g p n t x y 11 = g 11 := auF_out (by omega) (by omega)
  refine hi.one p (auF_out (by omega) (by omega)) e11 (fun q k h1 _ h2 => auF_out (by rcases Nat.lt_or_gt_of_ne h1 with h3 | h3 <;> omega) (by rcases Nat.lt_or_gt_of_ne h1 with h3 | h3 <;> omega)) ?_
  have ec : auF g p n t x y (19 * p + 309) = (n : Int) + 1 := upd1_same _ _ _
  refine ⟨by rw [ec]; omega, by rw [ec]; omega, fun r hr => ?_⟩
  rw [ec] at hr
  by_cases e : r = n
  · rw [e]
    have e0 : auF g p n t x y (19 * p + 3 * n + 310) = t := by unfold auF; rw [upd1_ne _ _ _ (by omega), upd1_ne _ _ _ (by omega), upd1_ne _ _ _ (by omega), upd1_same]
    have e1 : auF g p n t x y (19 * p + 3 * n + 311) = x := by unfold auF; rw [upd1_ne _ _ _ (by omega), upd1_ne _ _ _ (by omega), upd1_same]
    have e2 : auF g p n t x y (19 * p + 3 * n + 312) = y := by unfold auF; rw [upd1_ne _ _ _ (by omega), upd1_same]
    unfold UsB
    rw [e0, e1, e2, e11]
    exact ⟨by omega, ht, hx.1, hx.2, hy.1, hy.2⟩
  · exact UsB.eqv (c3 r (by omega)) e11 (fun w hw => auF_out (by omega) (by omega))
theorem mkF_congr {g g' : F1} {x : Int} (hw : WI g) (e : ∀ k, 308 ≤ k → k < 461 → g' k = g k) : mkF g' x (g' 308).toNat = mkF g x (g 308).toNat := by
  rw [e 308 (by omega) (by omega)]
  have h8 := hw.2.1
  refine sumF_congr _ (fun i hi => ?_)
  have h6 := (hw.2.2 i (by omega)).2.1
  have h7 := (hw.2.2 i (by omega)).1
  have eu : usF g' x i = usF g x i := by
    unfold usF cntF
    rw [e (19 * i + 309) (by omega) (by omega)]
    exact sumF_congr _ (fun u hu => by
      show (if g' (19 * i + 3 * u + 310) = x then (1 : Int) else 0) = (if g (19 * i + 3 * u + 310) = x then 1 else 0)
      rw [e (19 * i + 3 * u + 310) (by omega) (by omega)])
  rw [eu]
