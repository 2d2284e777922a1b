/-! ITEMS ADDED (printed by gen/g55.py) -/
/-- an item more: w of its numbers are 0, the others what c says -/
def grS (g : F1) (c : Nat → Int) (cnt lo wd w : Nat) (n : Int) : F1 := fun k => if k = cnt then n else if lo ≤ k ∧ k < lo + w then 0 else if lo ≤ k ∧ k < lo + wd then c (k - lo) else g k
theorem grS_next (g : F1) (c : Nat → Int) (cnt lo wd w : Nat) (n : Int) (h : cnt < lo) : upd1 (grS g c cnt lo wd w n) (lo + w) 0 = grS g c cnt lo wd (w + 1) n := by
  funext k
  unfold upd1 grS
  by_cases e : k = lo + w
  · rw [if_pos e, if_neg (by omega), if_pos (by omega)]
  · rw [if_neg e]
    by_cases e2 : k = cnt
    · rw [if_pos e2, if_pos e2]
    · rw [if_neg e2, if_neg e2]
      by_cases e3 : lo ≤ k ∧ k < lo + w
      · rw [if_pos e3, if_pos (by omega)]
      · rw [if_neg e3, if_neg (show ¬ (lo ≤ k ∧ k < lo + (w + 1)) by omega)]
theorem grS_end (g : F1) (c : Nat → Int) (cnt lo wd : Nat) (n : Int) : grS g c cnt lo wd wd n = addZ g cnt lo wd n := by
  funext k
  unfold grS addZ
  by_cases e : lo ≤ k ∧ k < lo + wd
  · rw [if_pos e, if_pos e]
  · rw [if_neg e, if_neg e, if_neg e]
theorem grS_out {g : F1} {c : Nat → Int} {cnt lo wd w : Nat} {n : Int} {k : Nat} (h1 : k ≠ cnt) (h2 : k < lo ∨ lo + wd ≤ k) (h3 : w ≤ wd) : grS g c cnt lo wd w n k = g k := by
  unfold grS; rw [if_neg h1, if_neg (by omega), if_neg (by omega)]
theorem shD_out {g : F1} {lo hi st k : Nat} (h : k < lo ∨ hi ≤ k) : shD g lo hi st k = g k := by
  unfold shD; rw [if_neg (by omega)]
theorem PRep.grow {I J : F2} {R : Nat} {g : F1} (h : PRep I J R g) {p n : Nat} (hp : (p : Int) < g 11) (h8 : g 11 ≤ 8) (h6 : ∀ q : Nat, (q : Int) < g 11 → g (37 * q + 12) ≤ 6) (hn : g (37 * p + 12) = (n : Int)) (hn6 : n < 6) : PRep (up2 I (R + 2) p ((n : Int) + 1)) J R (grS g (fun j => I (R + 3) (36 * p + 6 * n + j)) (37 * p + 12) (37 * p + 6 * n + 13) 6 0 ((n : Int) + 1)) := by
  have e11 : grS g (fun j => I (R + 3) (36 * p + 6 * n + j)) (37 * p + 12) (37 * p + 6 * n + 13) 6 0 ((n : Int) + 1) 11 = g 11 := grS_out (by omega) (by omega) (by omega)
  refine ⟨by rw [up2_row _ _ _ _ (by omega)]; exact h.1, by rw [up2_row _ _ _ _ (by omega), e11]; exact h.2.1, fun q hq2 => ?_⟩
  rw [e11] at hq2
  have h9 := h.2.2 q hq2
  have hq6 := h6 q hq2
  have hb : ∀ w, w < 6 → 37 * q + 12 ≠ 37 * p + 6 * n + w + 13 := fun w hw => ixP1 (by omega) hw
  have hb0 := hb 0 (by omega)
  have hb1 := hb 1 (by omega)
  have hb2 := hb 2 (by omega)
  have hb3 := hb 3 (by omega)
  have hb4 := hb 4 (by omega)
  have hb5 := hb 5 (by omega)
  refine ⟨by rw [grS_out (by omega) (by omega) (by omega)]; exact h9.1, ?_, fun s2 w2 hs2 hw2 => ?_⟩
  · by_cases e : q = p
    · rw [e, up2_same]; unfold grS; rw [if_pos rfl]
    · rw [up2_ne2 _ _ _ _ e, grS_out (by omega) (by omega) (by omega)]; exact h9.2.1
  · rw [up2_row _ _ _ _ (by omega)]
    by_cases e : q = p ∧ s2 = n
    · obtain ⟨rfl, rfl⟩ := e
      unfold grS
      rw [if_neg (by omega), if_neg (by omega), if_pos (by omega)]
      show _ = I (R + 3) _
      exact congrArg (I (R + 3)) (by omega)
    · have hs3 : s2 ≤ 5 ∧ (q = p → s2 < n) := by
        by_cases eq : q = p
        · subst eq
          unfold grS at hs2; rw [if_pos rfl] at hs2; omega
        · rw [grS_out (by omega) (by omega) (by omega)] at hs2; omega
      have hlt : (s2 : Int) < g (37 * q + 12) := by
        by_cases eq : q = p
        · subst eq; omega
        · rw [grS_out (by omega) (by omega) (by omega)] at hs2; exact hs2
      have hc : ∀ w, w < 6 → 37 * q + 6 * s2 + w2 + 13 ≠ 37 * p + 6 * n + w + 13 := fun w hw => (ixP2 (p := p) (q := q) (s := n) (s2 := s2) (w := w) (w2 := w2) (by omega) hw hs3.1 hw2 (fun z => e ⟨z.1, z.2.1⟩)).2
      have hc0 := hc 0 (by omega)
      have hc1 := hc 1 (by omega)
      have hc2 := hc 2 (by omega)
      have hc3 := hc 3 (by omega)
      have hc4 := hc 4 (by omega)
      have hc5 := hc 5 (by omega)
      have hd : 37 * p + 12 ≠ 37 * q + 6 * s2 + w2 + 13 := ixP1 hs3.1 hw2
      rw [grS_out (by omega) (by omega) (by omega)]
      exact h9.2.2 s2 w2 hlt hw2
theorem IRep.grow {I J : F2} {R : Nat} {g : F1} (h : IRep I J R g) {p n : Nat} (hp : (p : Int) < g 308) (h8 : g 308 ≤ 8) (h6 : ∀ q : Nat, (q : Int) < g 308 → g (19 * q + 309) ≤ 6) (hn : g (19 * p + 309) = (n : Int)) (hn6 : n < 6) : IRep (up2 I (R + 2) p ((n : Int) + 1)) J R (grS g (fun j => I (R + 3) (18 * p + 3 * n + j)) (19 * p + 309) (19 * p + 3 * n + 310) 3 0 ((n : Int) + 1)) := by
  have e11 : grS g (fun j => I (R + 3) (18 * p + 3 * n + j)) (19 * p + 309) (19 * p + 3 * n + 310) 3 0 ((n : Int) + 1) 308 = g 308 := grS_out (by omega) (by omega) (by omega)
  refine ⟨by rw [up2_row _ _ _ _ (by omega)]; exact h.1, by rw [up2_row _ _ _ _ (by omega), e11]; exact h.2.1, fun q hq2 => ?_⟩
  rw [e11] at hq2
  have h9 := h.2.2 q hq2
  have hq6 := h6 q hq2
  have hb : ∀ w, w < 3 → 19 * q + 309 ≠ 19 * p + 3 * n + w + 310 := fun w hw => ixI1 (by omega) hw
  have hb0 := hb 0 (by omega)
  have hb1 := hb 1 (by omega)
  have hb2 := hb 2 (by omega)
  refine ⟨by rw [grS_out (by omega) (by omega) (by omega)]; exact h9.1, ?_, fun s2 w2 hs2 hw2 => ?_⟩
  · by_cases e : q = p
    · rw [e, up2_same]; unfold grS; rw [if_pos rfl]
    · rw [up2_ne2 _ _ _ _ e, grS_out (by omega) (by omega) (by omega)]; exact h9.2.1
  · rw [up2_row _ _ _ _ (by omega)]
    by_cases e : q = p ∧ s2 = n
    · obtain ⟨rfl, rfl⟩ := e
      unfold grS
      rw [if_neg (by omega), if_neg (by omega), if_pos (by omega)]
      show _ = I (R + 3) _
      exact congrArg (I (R + 3)) (by omega)
    · have hs3 : s2 ≤ 5 ∧ (q = p → s2 < n) := by
        by_cases eq : q = p
        · subst eq
          unfold grS at hs2; rw [if_pos rfl] at hs2; omega
        · rw [grS_out (by omega) (by omega) (by omega)] at hs2; omega
      have hlt : (s2 : Int) < g (19 * q + 309) := by
        by_cases eq : q = p
        · subst eq; omega
        · rw [grS_out (by omega) (by omega) (by omega)] at hs2; exact hs2
      have hc : ∀ w, w < 3 → 19 * q + 3 * s2 + w2 + 310 ≠ 19 * p + 3 * n + w + 310 := fun w hw => (ixI2 (p := p) (q := q) (s := n) (s2 := s2) (w := w) (w2 := w2) (by omega) hw hs3.1 hw2 (fun z => e ⟨z.1, z.2.1⟩)).2
      have hc0 := hc 0 (by omega)
      have hc1 := hc 1 (by omega)
      have hc2 := hc 2 (by omega)
      have hd : 19 * p + 309 ≠ 19 * q + 3 * s2 + w2 + 310 := ixI1 hs3.1 hw2
      rw [grS_out (by omega) (by omega) (by omega)]
      exact h9.2.2 s2 w2 hlt hw2
def onlyR (R : Nat) (I I' : F2) : Prop := ∀ a, a ≠ R + 2 → a ≠ R + 3 → I' a = I a
theorem lp_addItem_5 (X : AX) (I J : Nat → Nat → Int) (cc ss : Nat) {g : F1} (I0 : F2) (p n : Nat) (c0 : Nat → Int) (hg8 : g 11 ≤ 8) (hg6 : ∀ q : Nat, (q : Int) < g 11 → g (37 * q + 12) ≤ 6) (hp : (p : Int) < g 11) (hn6 : n < 6) (w : Nat) (hw : w ≤ 6) (hO : onlyR 5 I0 I) (hR : PRep I J 5 (grS g c0 (37 * p + 12) (37 * p + 6 * n + 13) 6 w ((n : Int) + 1))) : Ev X k_X3_addItem (42, [some (vr 5), some (vi (p : Int)), some (vi (n : Int)), some (vi (w : Int))], []) (MS I J cc ss) (PV cc ss (some (vi (n : Int))) (fun I' J' => J' = J ∧ onlyR 5 I0 I' ∧ PRep I' J 5 (addZ g (37 * p + 12) (37 * p + 6 * n + 13) 6 ((n : Int) + 1)))) := by
  have e11 : (grS g c0 (37 * p + 12) (37 * p + 6 * n + 13) 6 w ((n : Int) + 1)) 11 = g 11 := grS_out (by omega) (by omega) (by omega)
  have h8 : (grS g c0 (37 * p + 12) (37 * p + 6 * n + 13) 6 w ((n : Int) + 1)) 11 ≤ 8 := by rw [e11]; exact hg8
  have ec : ∀ q : Nat, (q : Int) < g 11 → q ≠ p → (grS g c0 (37 * p + 12) (37 * p + 6 * n + 13) 6 w ((n : Int) + 1)) (37 * q + 12) = g (37 * q + 12) := fun q hq hne => grS_out (by omega) (by
    have := hg6 q hq
    rcases Nat.lt_trichotomy q p with z | z | z <;> omega) (by omega)
  have ep : (grS g c0 (37 * p + 12) (37 * p + 6 * n + 13) 6 w ((n : Int) + 1)) (37 * p + 12) = (n : Int) + 1 := by unfold grS; rw [if_pos rfl]
  have h6 : ∀ q : Nat, (q : Int) < (grS g c0 (37 * p + 12) (37 * p + 6 * n + 13) 6 w ((n : Int) + 1)) 11 → (grS g c0 (37 * p + 12) (37 * p + 6 * n + 13) 6 w ((n : Int) + 1)) (37 * q + 12) ≤ 6 := fun q hq => by
    rw [e11] at hq
    by_cases e : q = p
    · rw [e, ep]; omega
    · rw [ec q hq e]; exact hg6 q hq
  refine ev_n (fr' := (47, [some (vr 5), some (vi (p : Int)), some (vi (n : Int)), some (vi (w : Int))], [vi (I 5 0), vi (w : Int)])) (S' := MS I J cc ss) 3 rfl ?_
  refine ev_eqi (hR.1) ?_
  show Ev X k_X3_addItem (47, [some (vr 5), some (vi (p : Int)), some (vi (n : Int)), some (vi (w : Int))], [vi 6, vi (w : Int)]) (MS I J cc ss) _
  refine ev_ic (c := .ge) (off := 17) rfl (by decide) (fun (g1 : 6 ≤ (w : Int)) => ?_) (fun (g1 : ¬ (6 ≤ (w : Int))) => ?_)
  · show Ev X k_X3_addItem (64, [some (vr 5), some (vi (p : Int)), some (vi (n : Int)), some (vi (w : Int))], []) (MS I J cc ss) _
    refine ev_n (fr' := (65, [some (vr 5), some (vi (p : Int)), some (vi (n : Int)), some (vi (w : Int))], [vi (n : Int)])) (S' := MS I J cc ss) 1 rfl ?_
    refine ev_r rfl rfl rfl ?_
    have e9 : w = 6 := by omega
    rw [e9, grS_end] at hR
    exact ⟨_, _, rfl, rfl, rfl, hO, hR⟩
  · show Ev X k_X3_addItem (50, [some (vr 5), some (vi (p : Int)), some (vi (n : Int)), some (vi (w : Int))], []) (MS I J cc ss) _
    refine ev_n (fr' := (55, [some (vr 5), some (vi (p : Int)), some (vi (n : Int)), some (vi (w : Int))], [vi 0, vi (w : Int), vi (n : Int), vi (p : Int), vr 5])) (S' := MS I J cc ss) 5 rfl ?_
    refine ev_cv rfl rfl rfl ⟨Nat.le_of_ble_eq_true rfl, Nat.le_of_ble_eq_true rfl⟩ (sp_putNumber_5 X _ _ _ _ p n w 0 hR h8 h6 (by omega) (by omega) (by omega)) ?_
    show Ev X k_X3_addItem (58, [some (vr 5), some (vi (p : Int)), some (vi (n : Int)), some (vi (w : Int))], []) (MS (up2 I 8 (36 * p + 6 * n + w) 0) J cc ss) _
    refine ev_inc (z := (w : Int) + 1) rfl rfl (by omega) (by omega) (by omega) rfl ?_
    show Ev X k_X3_addItem (61, [some (vr 5), some (vi (p : Int)), some (vi (n : Int)), some (vi ((w : Int) + 1))], []) (MS (up2 I 8 (36 * p + 6 * n + w) 0) J cc ss) _
    refine ev_n (fr' := (42, [some (vr 5), some (vi (p : Int)), some (vi (n : Int)), some (vi ((w : Int) + 1))], [])) (S' := MS (up2 I 8 (36 * p + 6 * n + w) 0) J cc ss) 1 rfl ?_
    have hPn := PRep.put hR (p := p) (s := n) (w := w) (v := 0) (by omega) h8 h6 (by omega) (by omega)
    rw [show 37 * p + 6 * n + w + 13 = (37 * p + 6 * n + 13) + w by omega, grS_next _ _ _ _ _ _ _ (by omega)] at hPn
    exact lp_addItem_5 X _ _ cc ss I0 p n c0 hg8 hg6 hp hn6 (w + 1) (by omega) (fun a h1 h2 => by rw [up2_row _ _ _ _ h2]; exact hO a h1 h2) hPn
termination_by 7 - w
decreasing_by all_goals omega
theorem sp_addItem_5 (X : AX) (I J : Nat → Nat → Int) (cc ss : Nat) {g : F1} (p n : Nat) (hP : PRep I J 5 g) (h8 : g 11 ≤ 8) (h6 : ∀ q : Nat, (q : Int) < g 11 → g (37 * q + 12) ≤ 6) (hp : (p : Int) < g 11) (hn : g (37 * p + 12) = (n : Int)) (hn6 : n < 6) : Ev X k_X3_addItem (0, [some (vr 5), some (vi (p : Int)), none, none], []) (MS I J cc ss) (PV cc ss (some (vi (n : Int))) (fun I' J' => J' = J ∧ onlyR 5 I I' ∧ PRep I' J 5 (addZ g (37 * p + 12) (37 * p + 6 * n + 13) 6 ((n : Int) + 1)))) := by
  refine ev_n (fr' := (2, [some (vr 5), some (vi (p : Int)), none, none], [vi (p : Int), vr 5])) (S' := MS I J cc ss) 2 rfl ?_
  refine ev_cv rfl rfl rfl ⟨Nat.le_of_ble_eq_true rfl, Nat.le_of_ble_eq_true rfl⟩ (sp_hasRow_5 X _ _ _ _ (p : Int) hP) ?_
  show Ev X k_X3_addItem (5, [some (vr 5), some (vi (p : Int)), none, none], [vi (if 0 ≤ (p : Int) ∧ (p : Int) < g 11 then 1 else 0)]) (MS I J cc ss) _
  refine ev_beq _ rfl (by decide) (fun (g1 : ¬ (0 ≤ (p : Int) ∧ (p : Int) < g 11)) => False.elim (by omega)) (fun (g1 : 0 ≤ (p : Int) ∧ (p : Int) < g 11) => ?_)
  show Ev X k_X3_addItem (8, [some (vr 5), some (vi (p : Int)), none, none], []) (MS I J cc ss) _
  refine ev_n (fr' := (13, [some (vr 5), some (vi (p : Int)), none, none], [vi (p : Int), vr 7])) (S' := MS I J cc ss) 3 rfl ?_
  refine ev_iaN (j := p) (z := (n : Int)) rfl rfl (by omega) (by omega) (((hP.2.2 _ hp).2.1).trans hn) ?_
  show Ev X k_X3_addItem (14, [some (vr 5), some (vi (p : Int)), none, none], [vi (n : Int)]) (MS I J cc ss) _
  refine ev_n (fr' := (16, [some (vr 5), some (vi (p : Int)), none, none], [vi 6, vi (n : Int)])) (S' := MS I J cc ss) 1 rfl ?_
  refine ev_ic (c := .lt) (off := 5) rfl (by decide) (fun (g2 : (n : Int) < 6) => ?_) (fun (g2 : ¬ ((n : Int) < 6)) => False.elim (by omega))
  show Ev X k_X3_addItem (21, [some (vr 5), some (vi (p : Int)), none, none], []) (MS I J cc ss) _
  refine ev_n (fr' := (27, [some (vr 5), some (vi (p : Int)), none, none], [vi (p : Int), vr 7, vi (p : Int), vr 7])) (S' := MS I J cc ss) 4 rfl ?_
  refine ev_iaN (j := p) (z := (n : Int)) rfl rfl (by omega) (by omega) (((hP.2.2 _ hp).2.1).trans hn) ?_
  show Ev X k_X3_addItem (28, [some (vr 5), some (vi (p : Int)), none, none], [vi (n : Int), vi (p : Int), vr 7]) (MS I J cc ss) _
  refine ev_n (fr' := (29, [some (vr 5), some (vi (p : Int)), none, none], [vi 1, vi (n : Int), vi (p : Int), vr 7])) (S' := MS I J cc ss) 1 rfl ?_
  refine ev_add (z := (n : Int) + 1) rfl (by omega) (by omega) (by omega) ?_
  show Ev X k_X3_addItem (30, [some (vr 5), some (vi (p : Int)), none, none], [vi ((n : Int) + 1), vi (p : Int), vr 7]) (MS I J cc ss) _
  refine ev_iasN (j := p) rfl rfl (by omega) (by omega) ?_
  show Ev X k_X3_addItem (31, [some (vr 5), some (vi (p : Int)), none, none], []) (MS (up2 I 7 p ((n : Int) + 1)) J cc ss) _
  refine ev_n (fr' := (36, [some (vr 5), some (vi (p : Int)), none, none], [vi (p : Int), vr 7])) (S' := MS (up2 I 7 p ((n : Int) + 1)) J cc ss) 3 rfl ?_
  refine ev_iaN (j := p) (z := (n : Int) + 1) rfl rfl (by omega) (by omega) (show (up2 I 7 p ((n : Int) + 1)) 7 p = (n : Int) + 1 from up2_same _ _ _ _) ?_
  show Ev X k_X3_addItem (37, [some (vr 5), some (vi (p : Int)), none, none], [vi ((n : Int) + 1)]) (MS (up2 I 7 p ((n : Int) + 1)) J cc ss) _
  refine ev_n (fr' := (38, [some (vr 5), some (vi (p : Int)), none, none], [vi 1, vi ((n : Int) + 1)])) (S' := MS (up2 I 7 p ((n : Int) + 1)) J cc ss) 1 rfl ?_
  refine ev_sub (z := (n : Int)) rfl (by omega) (by omega) (by omega) ?_
  show Ev X k_X3_addItem (39, [some (vr 5), some (vi (p : Int)), none, none], [vi (n : Int)]) (MS (up2 I 7 p ((n : Int) + 1)) J cc ss) _
  refine ev_n (fr' := (42, [some (vr 5), some (vi (p : Int)), some (vi (n : Int)), some (vi 0)], [])) (S' := MS (up2 I 7 p ((n : Int) + 1)) J cc ss) 3 rfl ?_
  exact lp_addItem_5 X _ _ cc ss I p n _ h8 h6 hp hn6 0 (by omega) (fun a h1 h2 => up2_row _ _ _ _ h1) (PRep.grow hP hp h8 h6 hn hn6)
theorem lp_addItem_9 (X : AX) (I J : Nat → Nat → Int) (cc ss : Nat) {g : F1} (I0 : F2) (p n : Nat) (c0 : Nat → Int) (hg8 : g 308 ≤ 8) (hg6 : ∀ q : Nat, (q : Int) < g 308 → g (19 * q + 309) ≤ 6) (hp : (p : Int) < g 308) (hn6 : n < 6) (w : Nat) (hw : w ≤ 3) (hO : onlyR 9 I0 I) (hR : IRep I J 9 (grS g c0 (19 * p + 309) (19 * p + 3 * n + 310) 3 w ((n : Int) + 1))) : Ev X k_X3_addItem (42, [some (vr 9), some (vi (p : Int)), some (vi (n : Int)), some (vi (w : Int))], []) (MS I J cc ss) (PV cc ss (some (vi (n : Int))) (fun I' J' => J' = J ∧ onlyR 9 I0 I' ∧ IRep I' J 9 (addZ g (19 * p + 309) (19 * p + 3 * n + 310) 3 ((n : Int) + 1)))) := by
  have e11 : (grS g c0 (19 * p + 309) (19 * p + 3 * n + 310) 3 w ((n : Int) + 1)) 308 = g 308 := grS_out (by omega) (by omega) (by omega)
  have h8 : (grS g c0 (19 * p + 309) (19 * p + 3 * n + 310) 3 w ((n : Int) + 1)) 308 ≤ 8 := by rw [e11]; exact hg8
  have ec : ∀ q : Nat, (q : Int) < g 308 → q ≠ p → (grS g c0 (19 * p + 309) (19 * p + 3 * n + 310) 3 w ((n : Int) + 1)) (19 * q + 309) = g (19 * q + 309) := fun q hq hne => grS_out (by omega) (by
    have := hg6 q hq
    rcases Nat.lt_trichotomy q p with z | z | z <;> omega) (by omega)
  have ep : (grS g c0 (19 * p + 309) (19 * p + 3 * n + 310) 3 w ((n : Int) + 1)) (19 * p + 309) = (n : Int) + 1 := by unfold grS; rw [if_pos rfl]
  have h6 : ∀ q : Nat, (q : Int) < (grS g c0 (19 * p + 309) (19 * p + 3 * n + 310) 3 w ((n : Int) + 1)) 308 → (grS g c0 (19 * p + 309) (19 * p + 3 * n + 310) 3 w ((n : Int) + 1)) (19 * q + 309) ≤ 6 := fun q hq => by
    rw [e11] at hq
    by_cases e : q = p
    · rw [e, ep]; omega
    · rw [ec q hq e]; exact hg6 q hq
  refine ev_n (fr' := (47, [some (vr 9), some (vi (p : Int)), some (vi (n : Int)), some (vi (w : Int))], [vi (I 9 0), vi (w : Int)])) (S' := MS I J cc ss) 3 rfl ?_
  refine ev_eqi (hR.1) ?_
  show Ev X k_X3_addItem (47, [some (vr 9), some (vi (p : Int)), some (vi (n : Int)), some (vi (w : Int))], [vi 3, vi (w : Int)]) (MS I J cc ss) _
  refine ev_ic (c := .ge) (off := 17) rfl (by decide) (fun (g1 : 3 ≤ (w : Int)) => ?_) (fun (g1 : ¬ (3 ≤ (w : Int))) => ?_)
  · show Ev X k_X3_addItem (64, [some (vr 9), some (vi (p : Int)), some (vi (n : Int)), some (vi (w : Int))], []) (MS I J cc ss) _
    refine ev_n (fr' := (65, [some (vr 9), some (vi (p : Int)), some (vi (n : Int)), some (vi (w : Int))], [vi (n : Int)])) (S' := MS I J cc ss) 1 rfl ?_
    refine ev_r rfl rfl rfl ?_
    have e9 : w = 3 := by omega
    rw [e9, grS_end] at hR
    exact ⟨_, _, rfl, rfl, rfl, hO, hR⟩
  · show Ev X k_X3_addItem (50, [some (vr 9), some (vi (p : Int)), some (vi (n : Int)), some (vi (w : Int))], []) (MS I J cc ss) _
    refine ev_n (fr' := (55, [some (vr 9), some (vi (p : Int)), some (vi (n : Int)), some (vi (w : Int))], [vi 0, vi (w : Int), vi (n : Int), vi (p : Int), vr 9])) (S' := MS I J cc ss) 5 rfl ?_
    refine ev_cv rfl rfl rfl ⟨Nat.le_of_ble_eq_true rfl, Nat.le_of_ble_eq_true rfl⟩ (sp_putNumber_9 X _ _ _ _ p n w 0 hR h8 h6 (by omega) (by omega) (by omega)) ?_
    show Ev X k_X3_addItem (58, [some (vr 9), some (vi (p : Int)), some (vi (n : Int)), some (vi (w : Int))], []) (MS (up2 I 12 (18 * p + 3 * n + w) 0) J cc ss) _
    refine ev_inc (z := (w : Int) + 1) rfl rfl (by omega) (by omega) (by omega) rfl ?_
    show Ev X k_X3_addItem (61, [some (vr 9), some (vi (p : Int)), some (vi (n : Int)), some (vi ((w : Int) + 1))], []) (MS (up2 I 12 (18 * p + 3 * n + w) 0) J cc ss) _
    refine ev_n (fr' := (42, [some (vr 9), some (vi (p : Int)), some (vi (n : Int)), some (vi ((w : Int) + 1))], [])) (S' := MS (up2 I 12 (18 * p + 3 * n + w) 0) J cc ss) 1 rfl ?_
    have hPn := IRep.put hR (p := p) (s := n) (w := w) (v := 0) (by omega) h8 h6 (by omega) (by omega)
    rw [show 19 * p + 3 * n + w + 310 = (19 * p + 3 * n + 310) + w by omega, grS_next _ _ _ _ _ _ _ (by omega)] at hPn
    exact lp_addItem_9 X _ _ cc ss I0 p n c0 hg8 hg6 hp hn6 (w + 1) (by omega) (fun a h1 h2 => by rw [up2_row _ _ _ _ h2]; exact hO a h1 h2) hPn
termination_by 7 - w
decreasing_by all_goals omega
theorem sp_addItem_9 (X : AX) (I J : Nat → Nat → Int) (cc ss : Nat) {g : F1} (p n : Nat) (hI : IRep I J 9 g) (h8 : g 308 ≤ 8) (h6 : ∀ q : Nat, (q : Int) < g 308 → g (19 * q + 309) ≤ 6) (hp : (p : Int) < g 308) (hn : g (19 * p + 309) = (n : Int)) (hn6 : n < 6) : Ev X k_X3_addItem (0, [some (vr 9), some (vi (p : Int)), none, none], []) (MS I J cc ss) (PV cc ss (some (vi (n : Int))) (fun I' J' => J' = J ∧ onlyR 9 I I' ∧ IRep I' J 9 (addZ g (19 * p + 309) (19 * p + 3 * n + 310) 3 ((n : Int) + 1)))) := by
  refine ev_n (fr' := (2, [some (vr 9), some (vi (p : Int)), none, none], [vi (p : Int), vr 9])) (S' := MS I J cc ss) 2 rfl ?_
  refine ev_cv rfl rfl rfl ⟨Nat.le_of_ble_eq_true rfl, Nat.le_of_ble_eq_true rfl⟩ (sp_hasRow_9 X _ _ _ _ (p : Int) hI) ?_
  show Ev X k_X3_addItem (5, [some (vr 9), some (vi (p : Int)), none, none], [vi (if 0 ≤ (p : Int) ∧ (p : Int) < g 308 then 1 else 0)]) (MS I J cc ss) _
  refine ev_beq _ rfl (by decide) (fun (g1 : ¬ (0 ≤ (p : Int) ∧ (p : Int) < g 308)) => False.elim (by omega)) (fun (g1 : 0 ≤ (p : Int) ∧ (p : Int) < g 308) => ?_)
  show Ev X k_X3_addItem (8, [some (vr 9), some (vi (p : Int)), none, none], []) (MS I J cc ss) _
  refine ev_n (fr' := (13, [some (vr 9), some (vi (p : Int)), none, none], [vi (p : Int), vr 11])) (S' := MS I J cc ss) 3 rfl ?_
  refine ev_iaN (j := p) (z := (n : Int)) rfl rfl (by omega) (by omega) (((hI.2.2 _ hp).2.1).trans hn) ?_
  show Ev X k_X3_addItem (14, [some (vr 9), some (vi (p : Int)), none, none], [vi (n : Int)]) (MS I J cc ss) _
  refine ev_n (fr' := (16, [some (vr 9), some (vi (p : Int)), none, none], [vi 6, vi (n : Int)])) (S' := MS I J cc ss) 1 rfl ?_
  refine ev_ic (c := .lt) (off := 5) rfl (by decide) (fun (g2 : (n : Int) < 6) => ?_) (fun (g2 : ¬ ((n : Int) < 6)) => False.elim (by omega))
  show Ev X k_X3_addItem (21, [some (vr 9), some (vi (p : Int)), none, none], []) (MS I J cc ss) _
  refine ev_n (fr' := (27, [some (vr 9), some (vi (p : Int)), none, none], [vi (p : Int), vr 11, vi (p : Int), vr 11])) (S' := MS I J cc ss) 4 rfl ?_
  refine ev_iaN (j := p) (z := (n : Int)) rfl rfl (by omega) (by omega) (((hI.2.2 _ hp).2.1).trans hn) ?_
  show Ev X k_X3_addItem (28, [some (vr 9), some (vi (p : Int)), none, none], [vi (n : Int), vi (p : Int), vr 11]) (MS I J cc ss) _
  refine ev_n (fr' := (29, [some (vr 9), some (vi (p : Int)), none, none], [vi 1, vi (n : Int), vi (p : Int), vr 11])) (S' := MS I J cc ss) 1 rfl ?_
  refine ev_add (z := (n : Int) + 1) rfl (by omega) (by omega) (by omega) ?_
  show Ev X k_X3_addItem (30, [some (vr 9), some (vi (p : Int)), none, none], [vi ((n : Int) + 1), vi (p : Int), vr 11]) (MS I J cc ss) _
  refine ev_iasN (j := p) rfl rfl (by omega) (by omega) ?_
  show Ev X k_X3_addItem (31, [some (vr 9), some (vi (p : Int)), none, none], []) (MS (up2 I 11 p ((n : Int) + 1)) J cc ss) _
  refine ev_n (fr' := (36, [some (vr 9), some (vi (p : Int)), none, none], [vi (p : Int), vr 11])) (S' := MS (up2 I 11 p ((n : Int) + 1)) J cc ss) 3 rfl ?_
  refine ev_iaN (j := p) (z := (n : Int) + 1) rfl rfl (by omega) (by omega) (show (up2 I 11 p ((n : Int) + 1)) 11 p = (n : Int) + 1 from up2_same _ _ _ _) ?_
  show Ev X k_X3_addItem (37, [some (vr 9), some (vi (p : Int)), none, none], [vi ((n : Int) + 1)]) (MS (up2 I 11 p ((n : Int) + 1)) J cc ss) _
  refine ev_n (fr' := (38, [some (vr 9), some (vi (p : Int)), none, none], [vi 1, vi ((n : Int) + 1)])) (S' := MS (up2 I 11 p ((n : Int) + 1)) J cc ss) 1 rfl ?_
  refine ev_sub (z := (n : Int)) rfl (by omega) (by omega) (by omega) ?_
  show Ev X k_X3_addItem (39, [some (vr 9), some (vi (p : Int)), none, none], [vi (n : Int)]) (MS (up2 I 11 p ((n : Int) + 1)) J cc ss) _
  refine ev_n (fr' := (42, [some (vr 9), some (vi (p : Int)), some (vi (n : Int)), some (vi 0)], [])) (S' := MS (up2 I 11 p ((n : Int) + 1)) J cc ss) 3 rfl ?_
  exact lp_addItem_9 X _ _ cc ss I p n _ h8 h6 hp hn6 0 (by omega) (fun a h1 h2 => up2_row _ _ _ _ h1) (IRep.grow hI hp h8 h6 hn hn6)
theorem lp_addItem_118 (X : AX) (I J : Nat → Nat → Int) (cc ss : Nat) {d : F1} (I0 : F2) (p n : Nat) (c0 : Nat → Int) (hg8 : d 11 ≤ 8) (hg6 : ∀ q : Nat, (q : Int) < d 11 → d (37 * q + 12) ≤ 6) (hp : (p : Int) < d 11) (hn6 : n < 6) (w : Nat) (hw : w ≤ 6) (hO : onlyR 118 I0 I) (hR : PRep I J 118 (grS d c0 (37 * p + 12) (37 * p + 6 * n + 13) 6 w ((n : Int) + 1))) : Ev X k_X3_addItem (42, [some (vr 118), some (vi (p : Int)), some (vi (n : Int)), some (vi (w : Int))], []) (MS I J cc ss) (PV cc ss (some (vi (n : Int))) (fun I' J' => J' = J ∧ onlyR 118 I0 I' ∧ PRep I' J 118 (addZ d (37 * p + 12) (37 * p + 6 * n + 13) 6 ((n : Int) + 1)))) := by
  have e11 : (grS d c0 (37 * p + 12) (37 * p + 6 * n + 13) 6 w ((n : Int) + 1)) 11 = d 11 := grS_out (by omega) (by omega) (by omega)
  have h8 : (grS d c0 (37 * p + 12) (37 * p + 6 * n + 13) 6 w ((n : Int) + 1)) 11 ≤ 8 := by rw [e11]; exact hg8
  have ec : ∀ q : Nat, (q : Int) < d 11 → q ≠ p → (grS d c0 (37 * p + 12) (37 * p + 6 * n + 13) 6 w ((n : Int) + 1)) (37 * q + 12) = d (37 * q + 12) := fun q hq hne => grS_out (by omega) (by
    have := hg6 q hq
    rcases Nat.lt_trichotomy q p with z | z | z <;> omega) (by omega)
  have ep : (grS d c0 (37 * p + 12) (37 * p + 6 * n + 13) 6 w ((n : Int) + 1)) (37 * p + 12) = (n : Int) + 1 := by unfold grS; rw [if_pos rfl]
  have h6 : ∀ q : Nat, (q : Int) < (grS d c0 (37 * p + 12) (37 * p + 6 * n + 13) 6 w ((n : Int) + 1)) 11 → (grS d c0 (37 * p + 12) (37 * p + 6 * n + 13) 6 w ((n : Int) + 1)) (37 * q + 12) ≤ 6 := fun q hq => by
    rw [e11] at hq
    by_cases e : q = p
    · rw [e, ep]; omega
    · rw [ec q hq e]; exact hg6 q hq
  refine ev_n (fr' := (47, [some (vr 118), some (vi (p : Int)), some (vi (n : Int)), some (vi (w : Int))], [vi (I 118 0), vi (w : Int)])) (S' := MS I J cc ss) 3 rfl ?_
  refine ev_eqi (hR.1) ?_
  show Ev X k_X3_addItem (47, [some (vr 118), some (vi (p : Int)), some (vi (n : Int)), some (vi (w : Int))], [vi 6, vi (w : Int)]) (MS I J cc ss) _
  refine ev_ic (c := .ge) (off := 17) rfl (by decide) (fun (g1 : 6 ≤ (w : Int)) => ?_) (fun (g1 : ¬ (6 ≤ (w : Int))) => ?_)
  · show Ev X k_X3_addItem (64, [some (vr 118), some (vi (p : Int)), some (vi (n : Int)), some (vi (w : Int))], []) (MS I J cc ss) _
    refine ev_n (fr' := (65, [some (vr 118), some (vi (p : Int)), some (vi (n : Int)), some (vi (w : Int))], [vi (n : Int)])) (S' := MS I J cc ss) 1 rfl ?_
    refine ev_r rfl rfl rfl ?_
    have e9 : w = 6 := by omega
    rw [e9, grS_end] at hR
    exact ⟨_, _, rfl, rfl, rfl, hO, hR⟩
  · show Ev X k_X3_addItem (50, [some (vr 118), some (vi (p : Int)), some (vi (n : Int)), some (vi (w : Int))], []) (MS I J cc ss) _
    refine ev_n (fr' := (55, [some (vr 118), some (vi (p : Int)), some (vi (n : Int)), some (vi (w : Int))], [vi 0, vi (w : Int), vi (n : Int), vi (p : Int), vr 118])) (S' := MS I J cc ss) 5 rfl ?_
    refine ev_cv rfl rfl rfl ⟨Nat.le_of_ble_eq_true rfl, Nat.le_of_ble_eq_true rfl⟩ (sp_putNumber_118 X _ _ _ _ p n w 0 hR h8 h6 (by omega) (by omega) (by omega)) ?_
    show Ev X k_X3_addItem (58, [some (vr 118), some (vi (p : Int)), some (vi (n : Int)), some (vi (w : Int))], []) (MS (up2 I 121 (36 * p + 6 * n + w) 0) J cc ss) _
    refine ev_inc (z := (w : Int) + 1) rfl rfl (by omega) (by omega) (by omega) rfl ?_
    show Ev X k_X3_addItem (61, [some (vr 118), some (vi (p : Int)), some (vi (n : Int)), some (vi ((w : Int) + 1))], []) (MS (up2 I 121 (36 * p + 6 * n + w) 0) J cc ss) _
    refine ev_n (fr' := (42, [some (vr 118), some (vi (p : Int)), some (vi (n : Int)), some (vi ((w : Int) + 1))], [])) (S' := MS (up2 I 121 (36 * p + 6 * n + w) 0) J cc ss) 1 rfl ?_
    have hPn := PRep.put hR (p := p) (s := n) (w := w) (v := 0) (by omega) h8 h6 (by omega) (by omega)
    rw [show 37 * p + 6 * n + w + 13 = (37 * p + 6 * n + 13) + w by omega, grS_next _ _ _ _ _ _ _ (by omega)] at hPn
    exact lp_addItem_118 X _ _ cc ss I0 p n c0 hg8 hg6 hp hn6 (w + 1) (by omega) (fun a h1 h2 => by rw [up2_row _ _ _ _ h2]; exact hO a h1 h2) hPn
termination_by 7 - w
decreasing_by all_goals omega
theorem sp_addItem_118 (X : AX) (I J : Nat → Nat → Int) (cc ss : Nat) {d : F1} (p n : Nat) (dP : PRep I J 118 d) (h8 : d 11 ≤ 8) (h6 : ∀ q : Nat, (q : Int) < d 11 → d (37 * q + 12) ≤ 6) (hp : (p : Int) < d 11) (hn : d (37 * p + 12) = (n : Int)) (hn6 : n < 6) : Ev X k_X3_addItem (0, [some (vr 118), some (vi (p : Int)), none, none], []) (MS I J cc ss) (PV cc ss (some (vi (n : Int))) (fun I' J' => J' = J ∧ onlyR 118 I I' ∧ PRep I' J 118 (addZ d (37 * p + 12) (37 * p + 6 * n + 13) 6 ((n : Int) + 1)))) := by
  refine ev_n (fr' := (2, [some (vr 118), some (vi (p : Int)), none, none], [vi (p : Int), vr 118])) (S' := MS I J cc ss) 2 rfl ?_
  refine ev_cv rfl rfl rfl ⟨Nat.le_of_ble_eq_true rfl, Nat.le_of_ble_eq_true rfl⟩ (sp_hasRow_118 X _ _ _ _ (p : Int) dP) ?_
  show Ev X k_X3_addItem (5, [some (vr 118), some (vi (p : Int)), none, none], [vi (if 0 ≤ (p : Int) ∧ (p : Int) < d 11 then 1 else 0)]) (MS I J cc ss) _
  refine ev_beq _ rfl (by decide) (fun (g1 : ¬ (0 ≤ (p : Int) ∧ (p : Int) < d 11)) => False.elim (by omega)) (fun (g1 : 0 ≤ (p : Int) ∧ (p : Int) < d 11) => ?_)
  show Ev X k_X3_addItem (8, [some (vr 118), some (vi (p : Int)), none, none], []) (MS I J cc ss) _
  refine ev_n (fr' := (13, [some (vr 118), some (vi (p : Int)), none, none], [vi (p : Int), vr 120])) (S' := MS I J cc ss) 3 rfl ?_
  refine ev_iaN (j := p) (z := (n : Int)) rfl rfl (by omega) (by omega) (((dP.2.2 _ hp).2.1).trans hn) ?_
  show Ev X k_X3_addItem (14, [some (vr 118), some (vi (p : Int)), none, none], [vi (n : Int)]) (MS I J cc ss) _
  refine ev_n (fr' := (16, [some (vr 118), some (vi (p : Int)), none, none], [vi 6, vi (n : Int)])) (S' := MS I J cc ss) 1 rfl ?_
  refine ev_ic (c := .lt) (off := 5) rfl (by decide) (fun (g2 : (n : Int) < 6) => ?_) (fun (g2 : ¬ ((n : Int) < 6)) => False.elim (by omega))
  show Ev X k_X3_addItem (21, [some (vr 118), some (vi (p : Int)), none, none], []) (MS I J cc ss) _
  refine ev_n (fr' := (27, [some (vr 118), some (vi (p : Int)), none, none], [vi (p : Int), vr 120, vi (p : Int), vr 120])) (S' := MS I J cc ss) 4 rfl ?_
  refine ev_iaN (j := p) (z := (n : Int)) rfl rfl (by omega) (by omega) (((dP.2.2 _ hp).2.1).trans hn) ?_
  show Ev X k_X3_addItem (28, [some (vr 118), some (vi (p : Int)), none, none], [vi (n : Int), vi (p : Int), vr 120]) (MS I J cc ss) _
  refine ev_n (fr' := (29, [some (vr 118), some (vi (p : Int)), none, none], [vi 1, vi (n : Int), vi (p : Int), vr 120])) (S' := MS I J cc ss) 1 rfl ?_
  refine ev_add (z := (n : Int) + 1) rfl (by omega) (by omega) (by omega) ?_
  show Ev X k_X3_addItem (30, [some (vr 118), some (vi (p : Int)), none, none], [vi ((n : Int) + 1), vi (p : Int), vr 120]) (MS I J cc ss) _
  refine ev_iasN (j := p) rfl rfl (by omega) (by omega) ?_
  show Ev X k_X3_addItem (31, [some (vr 118), some (vi (p : Int)), none, none], []) (MS (up2 I 120 p ((n : Int) + 1)) J cc ss) _
  refine ev_n (fr' := (36, [some (vr 118), some (vi (p : Int)), none, none], [vi (p : Int), vr 120])) (S' := MS (up2 I 120 p ((n : Int) + 1)) J cc ss) 3 rfl ?_
  refine ev_iaN (j := p) (z := (n : Int) + 1) rfl rfl (by omega) (by omega) (show (up2 I 120 p ((n : Int) + 1)) 120 p = (n : Int) + 1 from up2_same _ _ _ _) ?_
  show Ev X k_X3_addItem (37, [some (vr 118), some (vi (p : Int)), none, none], [vi ((n : Int) + 1)]) (MS (up2 I 120 p ((n : Int) + 1)) J cc ss) _
  refine ev_n (fr' := (38, [some (vr 118), some (vi (p : Int)), none, none], [vi 1, vi ((n : Int) + 1)])) (S' := MS (up2 I 120 p ((n : Int) + 1)) J cc ss) 1 rfl ?_
  refine ev_sub (z := (n : Int)) rfl (by omega) (by omega) (by omega) ?_
  show Ev X k_X3_addItem (39, [some (vr 118), some (vi (p : Int)), none, none], [vi (n : Int)]) (MS (up2 I 120 p ((n : Int) + 1)) J cc ss) _
  refine ev_n (fr' := (42, [some (vr 118), some (vi (p : Int)), some (vi (n : Int)), some (vi 0)], [])) (S' := MS (up2 I 120 p ((n : Int) + 1)) J cc ss) 3 rfl ?_
  exact lp_addItem_118 X _ _ cc ss I p n _ h8 h6 hp hn6 0 (by omega) (fun a h1 h2 => up2_row _ _ _ _ h1) (PRep.grow dP hp h8 h6 hn hn6)
theorem lp_addItem_122 (X : AX) (I J : Nat → Nat → Int) (cc ss : Nat) {d : F1} (I0 : F2) (p n : Nat) (c0 : Nat → Int) (hg8 : d 308 ≤ 8) (hg6 : ∀ q : Nat, (q : Int) < d 308 → d (19 * q + 309) ≤ 6) (hp : (p : Int) < d 308) (hn6 : n < 6) (w : Nat) (hw : w ≤ 3) (hO : onlyR 122 I0 I) (hR : IRep I J 122 (grS d c0 (19 * p + 309) (19 * p + 3 * n + 310) 3 w ((n : Int) + 1))) : Ev X k_X3_addItem (42, [some (vr 122), some (vi (p : Int)), some (vi (n : Int)), some (vi (w : Int))], []) (MS I J cc ss) (PV cc ss (some (vi (n : Int))) (fun I' J' => J' = J ∧ onlyR 122 I0 I' ∧ IRep I' J 122 (addZ d (19 * p + 309) (19 * p + 3 * n + 310) 3 ((n : Int) + 1)))) := by
  have e11 : (grS d c0 (19 * p + 309) (19 * p + 3 * n + 310) 3 w ((n : Int) + 1)) 308 = d 308 := grS_out (by omega) (by omega) (by omega)
  have h8 : (grS d c0 (19 * p + 309) (19 * p + 3 * n + 310) 3 w ((n : Int) + 1)) 308 ≤ 8 := by rw [e11]; exact hg8
  have ec : ∀ q : Nat, (q : Int) < d 308 → q ≠ p → (grS d c0 (19 * p + 309) (19 * p + 3 * n + 310) 3 w ((n : Int) + 1)) (19 * q + 309) = d (19 * q + 309) := fun q hq hne => grS_out (by omega) (by
    have := hg6 q hq
    rcases Nat.lt_trichotomy q p with z | z | z <;> omega) (by omega)
  have ep : (grS d c0 (19 * p + 309) (19 * p + 3 * n + 310) 3 w ((n : Int) + 1)) (19 * p + 309) = (n : Int) + 1 := by unfold grS; rw [if_pos rfl]
  have h6 : ∀ q : Nat, (q : Int) < (grS d c0 (19 * p + 309) (19 * p + 3 * n + 310) 3 w ((n : Int) + 1)) 308 → (grS d c0 (19 * p + 309) (19 * p + 3 * n + 310) 3 w ((n : Int) + 1)) (19 * q + 309) ≤ 6 := fun q hq => by
    rw [e11] at hq
    by_cases e : q = p
    · rw [e, ep]; omega
    · rw [ec q hq e]; exact hg6 q hq
  refine ev_n (fr' := (47, [some (vr 122), some (vi (p : Int)), some (vi (n : Int)), some (vi (w : Int))], [vi (I 122 0), vi (w : Int)])) (S' := MS I J cc ss) 3 rfl ?_
  refine ev_eqi (hR.1) ?_
  show Ev X k_X3_addItem (47, [some (vr 122), some (vi (p : Int)), some (vi (n : Int)), some (vi (w : Int))], [vi 3, vi (w : Int)]) (MS I J cc ss) _
  refine ev_ic (c := .ge) (off := 17) rfl (by decide) (fun (g1 : 3 ≤ (w : Int)) => ?_) (fun (g1 : ¬ (3 ≤ (w : Int))) => ?_)
  · show Ev X k_X3_addItem (64, [some (vr 122), some (vi (p : Int)), some (vi (n : Int)), some (vi (w : Int))], []) (MS I J cc ss) _
    refine ev_n (fr' := (65, [some (vr 122), some (vi (p : Int)), some (vi (n : Int)), some (vi (w : Int))], [vi (n : Int)])) (S' := MS I J cc ss) 1 rfl ?_
    refine ev_r rfl rfl rfl ?_
    have e9 : w = 3 := by omega
    rw [e9, grS_end] at hR
    exact ⟨_, _, rfl, rfl, rfl, hO, hR⟩
  · show Ev X k_X3_addItem (50, [some (vr 122), some (vi (p : Int)), some (vi (n : Int)), some (vi (w : Int))], []) (MS I J cc ss) _
    refine ev_n (fr' := (55, [some (vr 122), some (vi (p : Int)), some (vi (n : Int)), some (vi (w : Int))], [vi 0, vi (w : Int), vi (n : Int), vi (p : Int), vr 122])) (S' := MS I J cc ss) 5 rfl ?_
    refine ev_cv rfl rfl rfl ⟨Nat.le_of_ble_eq_true rfl, Nat.le_of_ble_eq_true rfl⟩ (sp_putNumber_122 X _ _ _ _ p n w 0 hR h8 h6 (by omega) (by omega) (by omega)) ?_
    show Ev X k_X3_addItem (58, [some (vr 122), some (vi (p : Int)), some (vi (n : Int)), some (vi (w : Int))], []) (MS (up2 I 125 (18 * p + 3 * n + w) 0) J cc ss) _
    refine ev_inc (z := (w : Int) + 1) rfl rfl (by omega) (by omega) (by omega) rfl ?_
    show Ev X k_X3_addItem (61, [some (vr 122), some (vi (p : Int)), some (vi (n : Int)), some (vi ((w : Int) + 1))], []) (MS (up2 I 125 (18 * p + 3 * n + w) 0) J cc ss) _
    refine ev_n (fr' := (42, [some (vr 122), some (vi (p : Int)), some (vi (n : Int)), some (vi ((w : Int) + 1))], [])) (S' := MS (up2 I 125 (18 * p + 3 * n + w) 0) J cc ss) 1 rfl ?_
    have hPn := IRep.put hR (p := p) (s := n) (w := w) (v := 0) (by omega) h8 h6 (by omega) (by omega)
    rw [show 19 * p + 3 * n + w + 310 = (19 * p + 3 * n + 310) + w by omega, grS_next _ _ _ _ _ _ _ (by omega)] at hPn
    exact lp_addItem_122 X _ _ cc ss I0 p n c0 hg8 hg6 hp hn6 (w + 1) (by omega) (fun a h1 h2 => by rw [up2_row _ _ _ _ h2]; exact hO a h1 h2) hPn
termination_by 7 - w
decreasing_by all_goals omega
theorem sp_addItem_122 (X : AX) (I J : Nat → Nat → Int) (cc ss : Nat) {d : F1} (p n : Nat) (dI : IRep I J 122 d) (h8 : d 308 ≤ 8) (h6 : ∀ q : Nat, (q : Int) < d 308 → d (19 * q + 309) ≤ 6) (hp : (p : Int) < d 308) (hn : d (19 * p + 309) = (n : Int)) (hn6 : n < 6) : Ev X k_X3_addItem (0, [some (vr 122), some (vi (p : Int)), none, none], []) (MS I J cc ss) (PV cc ss (some (vi (n : Int))) (fun I' J' => J' = J ∧ onlyR 122 I I' ∧ IRep I' J 122 (addZ d (19 * p + 309) (19 * p + 3 * n + 310) 3 ((n : Int) + 1)))) := by
  refine ev_n (fr' := (2, [some (vr 122), some (vi (p : Int)), none, none], [vi (p : Int), vr 122])) (S' := MS I J cc ss) 2 rfl ?_
  refine ev_cv rfl rfl rfl ⟨Nat.le_of_ble_eq_true rfl, Nat.le_of_ble_eq_true rfl⟩ (sp_hasRow_122 X _ _ _ _ (p : Int) dI) ?_
  show Ev X k_X3_addItem (5, [some (vr 122), some (vi (p : Int)), none, none], [vi (if 0 ≤ (p : Int) ∧ (p : Int) < d 308 then 1 else 0)]) (MS I J cc ss) _
  refine ev_beq _ rfl (by decide) (fun (g1 : ¬ (0 ≤ (p : Int) ∧ (p : Int) < d 308)) => False.elim (by omega)) (fun (g1 : 0 ≤ (p : Int) ∧ (p : Int) < d 308) => ?_)
  show Ev X k_X3_addItem (8, [some (vr 122), some (vi (p : Int)), none, none], []) (MS I J cc ss) _
  refine ev_n (fr' := (13, [some (vr 122), some (vi (p : Int)), none, none], [vi (p : Int), vr 124])) (S' := MS I J cc ss) 3 rfl ?_
  refine ev_iaN (j := p) (z := (n : Int)) rfl rfl (by omega) (by omega) (((dI.2.2 _ hp).2.1).trans hn) ?_
  show Ev X k_X3_addItem (14, [some (vr 122), some (vi (p : Int)), none, none], [vi (n : Int)]) (MS I J cc ss) _
  refine ev_n (fr' := (16, [some (vr 122), some (vi (p : Int)), none, none], [vi 6, vi (n : Int)])) (S' := MS I J cc ss) 1 rfl ?_
  refine ev_ic (c := .lt) (off := 5) rfl (by decide) (fun (g2 : (n : Int) < 6) => ?_) (fun (g2 : ¬ ((n : Int) < 6)) => False.elim (by omega))
  show Ev X k_X3_addItem (21, [some (vr 122), some (vi (p : Int)), none, none], []) (MS I J cc ss) _
  refine ev_n (fr' := (27, [some (vr 122), some (vi (p : Int)), none, none], [vi (p : Int), vr 124, vi (p : Int), vr 124])) (S' := MS I J cc ss) 4 rfl ?_
  refine ev_iaN (j := p) (z := (n : Int)) rfl rfl (by omega) (by omega) (((dI.2.2 _ hp).2.1).trans hn) ?_
  show Ev X k_X3_addItem (28, [some (vr 122), some (vi (p : Int)), none, none], [vi (n : Int), vi (p : Int), vr 124]) (MS I J cc ss) _
  refine ev_n (fr' := (29, [some (vr 122), some (vi (p : Int)), none, none], [vi 1, vi (n : Int), vi (p : Int), vr 124])) (S' := MS I J cc ss) 1 rfl ?_
  refine ev_add (z := (n : Int) + 1) rfl (by omega) (by omega) (by omega) ?_
  show Ev X k_X3_addItem (30, [some (vr 122), some (vi (p : Int)), none, none], [vi ((n : Int) + 1), vi (p : Int), vr 124]) (MS I J cc ss) _
  refine ev_iasN (j := p) rfl rfl (by omega) (by omega) ?_
  show Ev X k_X3_addItem (31, [some (vr 122), some (vi (p : Int)), none, none], []) (MS (up2 I 124 p ((n : Int) + 1)) J cc ss) _
  refine ev_n (fr' := (36, [some (vr 122), some (vi (p : Int)), none, none], [vi (p : Int), vr 124])) (S' := MS (up2 I 124 p ((n : Int) + 1)) J cc ss) 3 rfl ?_
  refine ev_iaN (j := p) (z := (n : Int) + 1) rfl rfl (by omega) (by omega) (show (up2 I 124 p ((n : Int) + 1)) 124 p = (n : Int) + 1 from up2_same _ _ _ _) ?_
  show Ev X k_X3_addItem (37, [some (vr 122), some (vi (p : Int)), none, none], [vi ((n : Int) + 1)]) (MS (up2 I 124 p ((n : Int) + 1)) J cc ss) _
  refine ev_n (fr' := (38, [some (vr 122), some (vi (p : Int)), none, none], [vi 1, vi ((n : Int) + 1)])) (S' := MS (up2 I 124 p ((n : Int) + 1)) J cc ss) 1 rfl ?_
  refine ev_sub (z := (n : Int)) rfl (by omega) (by omega) (by omega) ?_
  show Ev X k_X3_addItem (39, [some (vr 122), some (vi (p : Int)), none, none], [vi (n : Int)]) (MS (up2 I 124 p ((n : Int) + 1)) J cc ss) _
  refine ev_n (fr' := (42, [some (vr 122), some (vi (p : Int)), some (vi (n : Int)), some (vi 0)], [])) (S' := MS (up2 I 124 p ((n : Int) + 1)) J cc ss) 3 rfl ?_
  exact lp_addItem_122 X _ _ cc ss I p n _ h8 h6 hp hn6 0 (by omega) (fun a h1 h2 => up2_row _ _ _ _ h1) (IRep.grow dI hp h8 h6 hn hn6)
