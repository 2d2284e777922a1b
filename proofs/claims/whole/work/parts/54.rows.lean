/-! CHANGES of rows: numbers (printed by gen/g54.py) -/
def upd1 (g : F1) (i : Nat) (v : Int) : F1 := fun k => if k = i then v else g k
theorem upd1_same (g : F1) (i : Nat) (v : Int) : upd1 g i v i = v := by simp [upd1]
theorem upd1_ne (g : F1) (i : Nat) (v : Int) {k : Nat} (h : k ≠ i) : upd1 g i v k = g k := by simp [upd1, h]
theorem ixP1 {p q s w : Nat} (hs : s ≤ 5) (hw : w < 6) : 37 * q + 12 ≠ 37 * p + 6 * s + w + 13 := by
  rcases Nat.lt_trichotomy q p with h | h | h <;> omega
theorem ixI1 {p q s w : Nat} (hs : s ≤ 5) (hw : w < 3) : 19 * q + 309 ≠ 19 * p + 3 * s + w + 310 := by
  rcases Nat.lt_trichotomy q p with h | h | h <;> omega
theorem ixP2 {p q s s2 w w2 : Nat} (hs : s ≤ 5) (hw : w < 6) (hs2 : s2 ≤ 5) (hw2 : w2 < 6) (h : ¬ (q = p ∧ s2 = s ∧ w2 = w)) : 36 * q + 6 * s2 + w2 ≠ 36 * p + 6 * s + w ∧ 37 * q + 6 * s2 + w2 + 13 ≠ 37 * p + 6 * s + w + 13 := by
  rcases Nat.lt_trichotomy q p with h1 | h1 | h1
  · omega
  · rcases Nat.lt_trichotomy s2 s with h2 | h2 | h2 <;> omega
  · omega
theorem ixI2 {p q s s2 w w2 : Nat} (hs : s ≤ 5) (hw : w < 3) (hs2 : s2 ≤ 5) (hw2 : w2 < 3) (h : ¬ (q = p ∧ s2 = s ∧ w2 = w)) : 18 * q + 3 * s2 + w2 ≠ 18 * p + 3 * s + w ∧ 19 * q + 3 * s2 + w2 + 310 ≠ 19 * p + 3 * s + w + 310 := by
  rcases Nat.lt_trichotomy q p with h1 | h1 | h1
  · omega
  · rcases Nat.lt_trichotomy s2 s with h2 | h2 | h2 <;> omega
  · omega
theorem PRep.put {I J : F2} {R : Nat} {g : F1} (h : PRep I J R g) {p s w : Nat} {v : Int} (hp : (p : Int) < g 11) (h8 : g 11 ≤ 8) (h6 : ∀ q : Nat, (q : Int) < g 11 → g (37 * q + 12) ≤ 6) (hs : (s : Int) < g (37 * p + 12)) (hq : w < 6) : PRep (up2 I (R + 3) (36 * p + 6 * s + w) v) J R (upd1 g (37 * p + 6 * s + w + 13) v) := by
  have hp6 := h6 p hp
  have e11 : upd1 g (37 * p + 6 * s + w + 13) v 11 = g 11 := upd1_ne _ _ _ (by omega)
  have ec : ∀ q : Nat, (q : Int) < g 11 → upd1 g (37 * p + 6 * s + w + 13) v (37 * q + 12) = g (37 * q + 12) := fun q hq2 => upd1_ne _ _ _ (ixP1 (by omega) hq)
  refine ⟨by rw [up2_row _ _ _ _ (by omega)]; exact h.1, by rw [up2_row _ _ _ _ (by omega), e11]; exact h.2.1, fun q hq2 => ?_⟩
  rw [e11] at hq2
  have h9 := h.2.2 q hq2
  have hq6 := h6 q hq2
  refine ⟨?_, by rw [up2_row _ _ _ _ (by omega), ec q hq2]; exact h9.2.1, fun s2 w2 hs2 hw2 => ?_⟩
  · rw [upd1_ne _ _ _ (by omega)]; exact h9.1
  · rw [ec q hq2] at hs2
    by_cases e : q = p ∧ s2 = s ∧ w2 = w
    · rw [e.1, e.2.1, e.2.2, up2_same, upd1_same]
    · have ix := ixP2 (show s ≤ 5 by omega) hq (show s2 ≤ 5 by omega) hw2 e
      rw [up2_ne2 _ _ _ _ ix.1, upd1_ne _ _ _ ix.2]; exact h9.2.2 s2 w2 hs2 hw2
theorem IRep.put {I J : F2} {R : Nat} {g : F1} (h : IRep I J R g) {p s w : Nat} {v : Int} (hp : (p : Int) < g 308) (h8 : g 308 ≤ 8) (h6 : ∀ q : Nat, (q : Int) < g 308 → g (19 * q + 309) ≤ 6) (hs : (s : Int) < g (19 * p + 309)) (hq : w < 3) : IRep (up2 I (R + 3) (18 * p + 3 * s + w) v) J R (upd1 g (19 * p + 3 * s + w + 310) v) := by
  have hp6 := h6 p hp
  have e11 : upd1 g (19 * p + 3 * s + w + 310) v 308 = g 308 := upd1_ne _ _ _ (by omega)
  have ec : ∀ q : Nat, (q : Int) < g 308 → upd1 g (19 * p + 3 * s + w + 310) v (19 * q + 309) = g (19 * q + 309) := fun q hq2 => upd1_ne _ _ _ (ixI1 (by omega) hq)
  refine ⟨by rw [up2_row _ _ _ _ (by omega)]; exact h.1, by rw [up2_row _ _ _ _ (by omega), e11]; exact h.2.1, fun q hq2 => ?_⟩
  rw [e11] at hq2
  have h9 := h.2.2 q hq2
  have hq6 := h6 q hq2
  refine ⟨?_, by rw [up2_row _ _ _ _ (by omega), ec q hq2]; exact h9.2.1, fun s2 w2 hs2 hw2 => ?_⟩
  · rw [upd1_ne _ _ _ (by omega)]; exact h9.1
  · rw [ec q hq2] at hs2
    by_cases e : q = p ∧ s2 = s ∧ w2 = w
    · rw [e.1, e.2.1, e.2.2, up2_same, upd1_same]
    · have ix := ixI2 (show s ≤ 5 by omega) hq (show s2 ≤ 5 by omega) hw2 e
      rw [up2_ne2 _ _ _ _ ix.1, upd1_ne _ _ _ ix.2]; exact h9.2.2 s2 w2 hs2 hw2
/-- an item more, all zero -/
def addZ (g : F1) (cnt lo w : Nat) (n : Int) : F1 := fun k => if k = cnt then n else if lo ≤ k ∧ k < lo + w then 0 else g k
/-- items moved down by one: the places from lo to hi are those st behind -/
def shD (g : F1) (lo hi st : Nat) : F1 := fun k => if lo ≤ k ∧ k < hi then g (k + st) else g k
theorem addZ_next (g : F1) (cnt lo w : Nat) (n : Int) (h : cnt < lo) : upd1 (addZ g cnt lo w n) (lo + w) 0 = addZ g cnt lo (w + 1) n := by
  funext k
  unfold upd1 addZ
  by_cases e : k = lo + w
  · rw [if_pos e, if_neg (by omega), if_pos (by omega)]
  · rw [if_neg e]
    by_cases e2 : k = cnt
    · rw [if_pos e2, if_pos e2]
    · rw [if_neg e2, if_neg e2]
      by_cases e3 : lo ≤ k ∧ k < lo + w
      · rw [if_pos e3, if_pos (by omega)]
      · rw [if_neg e3, if_neg (by omega)]
theorem addZ_0 (g : F1) (cnt lo : Nat) (n : Int) : upd1 g cnt n = addZ g cnt lo 0 n := by
  funext k
  unfold upd1 addZ
  by_cases e : k = cnt
  · rw [if_pos e, if_pos e]
  · rw [if_neg e, if_neg e, if_neg (by omega)]
theorem shD_next (g : F1) (lo hi st : Nat) (h : lo ≤ hi) (hst : 0 < st) : upd1 (shD g lo hi st) hi (shD g lo hi st (hi + st)) = shD g lo (hi + 1) st := by
  funext k
  unfold upd1 shD
  rw [if_neg (show ¬ (lo ≤ hi + st ∧ hi + st < hi) by omega)]
  by_cases e : k = hi
  · rw [if_pos e, e, if_pos (show lo ≤ hi ∧ hi < hi + 1 by omega)]
  · rw [if_neg e]
    by_cases e3 : lo ≤ k ∧ k < hi
    · rw [if_pos e3, if_pos (by omega)]
    · rw [if_neg e3, if_neg (by omega)]
theorem shD_0 (g : F1) (lo st : Nat) : shD g lo lo st = g := by
  funext k; unfold shD; rw [if_neg (by omega)]
/-- only the number of items of p changes -/
theorem PRep.cnt {I J : F2} {R : Nat} {g : F1} (h : PRep I J R g) {p : Nat} {n : Int} (hp : (p : Int) < g 11) (h8 : g 11 ≤ 8) (h6 : ∀ q : Nat, (q : Int) < g 11 → g (37 * q + 12) ≤ 6) (hn : n ≤ g (37 * p + 12)) : PRep (up2 I (R + 2) p n) J R (upd1 g (37 * p + 12) n) := by
  have hp6 := h6 p hp
  have e11 : upd1 g (37 * p + 12) n 11 = g 11 := upd1_ne _ _ _ (by omega)
  refine ⟨by rw [up2_row _ _ _ _ (by omega)]; exact h.1, by rw [up2_row _ _ _ _ (by omega), e11]; exact h.2.1, fun q hq2 => ?_⟩
  rw [e11] at hq2
  have h9 := h.2.2 q hq2
  have hq6 := h6 q hq2
  have hle : upd1 g (37 * p + 12) n (37 * q + 12) ≤ g (37 * q + 12) := by
    by_cases e : q = p
    · rw [e, upd1_same]; exact hn
    · rw [upd1_ne _ _ _ (by omega)]; exact Int.le_refl _
  refine ⟨by rw [upd1_ne _ _ _ (by omega)]; exact h9.1, ?_, fun s2 w2 hs2 hw2 => ?_⟩
  · by_cases e : q = p
    · rw [e, up2_same, upd1_same]
    · rw [up2_ne2 _ _ _ _ e, upd1_ne _ _ _ (by omega)]; exact h9.2.1
  · rw [up2_row _ _ _ _ (by omega), upd1_ne _ _ _ (Ne.symm (ixP1 (by omega) hw2))]; exact h9.2.2 s2 w2 (by omega) hw2
theorem IRep.cnt {I J : F2} {R : Nat} {g : F1} (h : IRep I J R g) {p : Nat} {n : Int} (hp : (p : Int) < g 308) (h8 : g 308 ≤ 8) (h6 : ∀ q : Nat, (q : Int) < g 308 → g (19 * q + 309) ≤ 6) (hn : n ≤ g (19 * p + 309)) : IRep (up2 I (R + 2) p n) J R (upd1 g (19 * p + 309) n) := by
  have hp6 := h6 p hp
  have e11 : upd1 g (19 * p + 309) n 308 = g 308 := upd1_ne _ _ _ (by omega)
  refine ⟨by rw [up2_row _ _ _ _ (by omega)]; exact h.1, by rw [up2_row _ _ _ _ (by omega), e11]; exact h.2.1, fun q hq2 => ?_⟩
  rw [e11] at hq2
  have h9 := h.2.2 q hq2
  have hq6 := h6 q hq2
  have hle : upd1 g (19 * p + 309) n (19 * q + 309) ≤ g (19 * q + 309) := by
    by_cases e : q = p
    · rw [e, upd1_same]; exact hn
    · rw [upd1_ne _ _ _ (by omega)]; exact Int.le_refl _
  refine ⟨by rw [upd1_ne _ _ _ (by omega)]; exact h9.1, ?_, fun s2 w2 hs2 hw2 => ?_⟩
  · by_cases e : q = p
    · rw [e, up2_same, upd1_same]
    · rw [up2_ne2 _ _ _ _ e, upd1_ne _ _ _ (by omega)]; exact h9.2.1
  · rw [up2_row _ _ _ _ (by omega), upd1_ne _ _ _ (Ne.symm (ixI1 (by omega) hw2))]; exact h9.2.2 s2 w2 (by omega) hw2
theorem sp_cellOf2_5 (X : AX) (I J : Nat → Nat → Int) (cc ss : Nat) {g : F1} (p : Nat) (s : Nat) (w : Nat) (hP : PRep I J 5 g) (h8 : g 11 ≤ 8) (h6 : ∀ q : Nat, (q : Int) < g 11 → g (37 * q + 12) ≤ 6) (hp : (p : Int) < g 11) (hs : (s : Int) < g (37 * p + 12)) (hq : w < 6) : Ev X k_X3_cellOf (0, [some (vr 5), some (vi (p : Int)), some (vi (s : Int)), some (vi (w : Int))], []) (MS I J cc ss) (fun o T => o = .inl (some (vi (36 * (p : Int) + 6 * (s : Int) + (w : Int)))) ∧ T = MS I J cc ss) := by
  have hw3 := h6 p hp
  refine ev_n (fr' := (1, [some (vr 5), some (vi (p : Int)), some (vi (s : Int)), some (vi (w : Int))], [vi (p : Int)])) (S' := MS I J cc ss) 1 rfl ?_
  refine ev_if (c := .lt) (off := 37) rfl (by decide) (fun (g1 : (p : Int) < 0) => False.elim (by omega)) (fun (g1 : ¬ ((p : Int) < 0)) => ?_)
  show Ev X k_X3_cellOf (4, [some (vr 5), some (vi (p : Int)), some (vi (s : Int)), some (vi (w : Int))], []) (MS I J cc ss) _
  refine ev_n (fr' := (9, [some (vr 5), some (vi (p : Int)), some (vi (s : Int)), some (vi (w : Int))], [vi (I 5 4), vi (p : Int)])) (S' := MS I J cc ss) 3 rfl ?_
  refine ev_eqi (hP.2.1) ?_
  show Ev X k_X3_cellOf (9, [some (vr 5), some (vi (p : Int)), some (vi (s : Int)), some (vi (w : Int))], [vi (g 11), vi (p : Int)]) (MS I J cc ss) _
  refine ev_ic (c := .ge) (off := 29) rfl (by decide) (fun (g2 : (g 11) ≤ (p : Int)) => False.elim (by omega)) (fun (g2 : ¬ ((g 11) ≤ (p : Int))) => ?_)
  show Ev X k_X3_cellOf (12, [some (vr 5), some (vi (p : Int)), some (vi (s : Int)), some (vi (w : Int))], []) (MS I J cc ss) _
  refine ev_n (fr' := (13, [some (vr 5), some (vi (p : Int)), some (vi (s : Int)), some (vi (w : Int))], [vi (s : Int)])) (S' := MS I J cc ss) 1 rfl ?_
  refine ev_if (c := .lt) (off := 25) rfl (by decide) (fun (g3 : (s : Int) < 0) => False.elim (by omega)) (fun (g3 : ¬ ((s : Int) < 0)) => ?_)
  show Ev X k_X3_cellOf (16, [some (vr 5), some (vi (p : Int)), some (vi (s : Int)), some (vi (w : Int))], []) (MS I J cc ss) _
  refine ev_n (fr' := (22, [some (vr 5), some (vi (p : Int)), some (vi (s : Int)), some (vi (w : Int))], [vi (p : Int), vr 7, vi (s : Int)])) (S' := MS I J cc ss) 4 rfl ?_
  refine ev_iaN (j := p) (z := (g (37 * p + 12))) rfl rfl (by omega) (by omega) ((hP.2.2 _ (by omega)).2.1) ?_
  show Ev X k_X3_cellOf (23, [some (vr 5), some (vi (p : Int)), some (vi (s : Int)), some (vi (w : Int))], [vi (g (37 * p + 12)), vi (s : Int)]) (MS I J cc ss) _
  refine ev_ic (c := .ge) (off := 15) rfl (by decide) (fun (g4 : (g (37 * p + 12)) ≤ (s : Int)) => False.elim (by omega)) (fun (g4 : ¬ ((g (37 * p + 12)) ≤ (s : Int))) => ?_)
  show Ev X k_X3_cellOf (26, [some (vr 5), some (vi (p : Int)), some (vi (s : Int)), some (vi (w : Int))], []) (MS I J cc ss) _
  refine ev_n (fr' := (27, [some (vr 5), some (vi (p : Int)), some (vi (s : Int)), some (vi (w : Int))], [vi (w : Int)])) (S' := MS I J cc ss) 1 rfl ?_
  refine ev_if (c := .lt) (off := 11) rfl (by decide) (fun (g5 : (w : Int) < 0) => False.elim (by omega)) (fun (g5 : ¬ ((w : Int) < 0)) => ?_)
  show Ev X k_X3_cellOf (30, [some (vr 5), some (vi (p : Int)), some (vi (s : Int)), some (vi (w : Int))], []) (MS I J cc ss) _
  refine ev_n (fr' := (35, [some (vr 5), some (vi (p : Int)), some (vi (s : Int)), some (vi (w : Int))], [vi (I 5 0), vi (w : Int)])) (S' := MS I J cc ss) 3 rfl ?_
  refine ev_eqi (hP.1) ?_
  show Ev X k_X3_cellOf (35, [some (vr 5), some (vi (p : Int)), some (vi (s : Int)), some (vi (w : Int))], [vi 6, vi (w : Int)]) (MS I J cc ss) _
  refine ev_ic (c := .lt) (off := 5) rfl (by decide) (fun (g6 : (w : Int) < 6) => ?_) (fun (g6 : ¬ ((w : Int) < 6)) => False.elim (by omega))
  show Ev X k_X3_cellOf (40, [some (vr 5), some (vi (p : Int)), some (vi (s : Int)), some (vi (w : Int))], []) (MS I J cc ss) _
  refine ev_n (fr' := (43, [some (vr 5), some (vi (p : Int)), some (vi (s : Int)), some (vi (w : Int))], [vi 6, vi (p : Int)])) (S' := MS I J cc ss) 2 rfl ?_
  refine ev_mul (z := 6 * (p : Int)) rfl (by omega) (by omega) (by omega) ?_
  show Ev X k_X3_cellOf (44, [some (vr 5), some (vi (p : Int)), some (vi (s : Int)), some (vi (w : Int))], [vi (6 * (p : Int))]) (MS I J cc ss) _
  refine ev_n (fr' := (45, [some (vr 5), some (vi (p : Int)), some (vi (s : Int)), some (vi (w : Int))], [vi (s : Int), vi (6 * (p : Int))])) (S' := MS I J cc ss) 1 rfl ?_
  refine ev_add (z := 6 * (p : Int) + (s : Int)) rfl (by omega) (by omega) (by omega) ?_
  show Ev X k_X3_cellOf (46, [some (vr 5), some (vi (p : Int)), some (vi (s : Int)), some (vi (w : Int))], [vi (6 * (p : Int) + (s : Int))]) (MS I J cc ss) _
  refine ev_n (fr' := (50, [some (vr 5), some (vi (p : Int)), some (vi (s : Int)), some (vi (w : Int))], [vi (I 5 0), vi (6 * (p : Int) + (s : Int))])) (S' := MS I J cc ss) 2 rfl ?_
  refine ev_eqi (hP.1) ?_
  show Ev X k_X3_cellOf (50, [some (vr 5), some (vi (p : Int)), some (vi (s : Int)), some (vi (w : Int))], [vi 6, vi (6 * (p : Int) + (s : Int))]) (MS I J cc ss) _
  refine ev_mul (z := 36 * (p : Int) + 6 * (s : Int)) rfl (by omega) (by omega) (by omega) ?_
  show Ev X k_X3_cellOf (51, [some (vr 5), some (vi (p : Int)), some (vi (s : Int)), some (vi (w : Int))], [vi (36 * (p : Int) + 6 * (s : Int))]) (MS I J cc ss) _
  refine ev_n (fr' := (52, [some (vr 5), some (vi (p : Int)), some (vi (s : Int)), some (vi (w : Int))], [vi (w : Int), vi (36 * (p : Int) + 6 * (s : Int))])) (S' := MS I J cc ss) 1 rfl ?_
  refine ev_add (z := 36 * (p : Int) + 6 * (s : Int) + (w : Int)) rfl (by omega) (by omega) (by omega) ?_
  show Ev X k_X3_cellOf (53, [some (vr 5), some (vi (p : Int)), some (vi (s : Int)), some (vi (w : Int))], [vi (36 * (p : Int) + 6 * (s : Int) + (w : Int))]) (MS I J cc ss) _
  refine ev_r rfl rfl rfl ?_
  first | exact ⟨rfl, rfl⟩ | exact ⟨congrArg (fun z => Sum.inl (some (vi z))) (by first | rfl | (rw [if_pos (by omega)]) | (rw [if_neg (by omega)]) | (simp only [*]; done) | omega), rfl⟩
theorem sp_number2_5 (X : AX) (I J : Nat → Nat → Int) (cc ss : Nat) {g : F1} (p : Nat) (s : Nat) (w : Nat) (hP : PRep I J 5 g) (h8 : g 11 ≤ 8) (h6 : ∀ q : Nat, (q : Int) < g 11 → g (37 * q + 12) ≤ 6) (hp : (p : Int) < g 11) (hs : (s : Int) < g (37 * p + 12)) (hq : w < 6) : Ev X k_X3_number (0, [some (vr 5), some (vi (p : Int)), some (vi (s : Int)), some (vi (w : Int)), none], []) (MS I J cc ss) (fun o T => o = .inl (some (vi (g (37 * p + 6 * s + w + 13)))) ∧ T = MS I J cc ss) := by
  have hw3 := h6 p hp
  refine ev_n (fr' := (4, [some (vr 5), some (vi (p : Int)), some (vi (s : Int)), some (vi (w : Int)), none], [vi (w : Int), vi (s : Int), vi (p : Int), vr 5])) (S' := MS I J cc ss) 4 rfl ?_
  refine ev_cv rfl rfl rfl ⟨Nat.le_of_ble_eq_true rfl, Nat.le_of_ble_eq_true rfl⟩ (sp_cellOf2_5 X _ _ _ _ p s w hP h8 h6 (by omega) (by omega) (by omega)) ?_
  show Ev X k_X3_number (7, [some (vr 5), some (vi (p : Int)), some (vi (s : Int)), some (vi (w : Int)), none], [vi (36 * (p : Int) + 6 * (s : Int) + (w : Int))]) (MS I J cc ss) _
  refine ev_n (fr' := (19, [some (vr 5), some (vi (p : Int)), some (vi (s : Int)), some (vi (w : Int)), some (vi (36 * (p : Int) + 6 * (s : Int) + (w : Int)))], [vi 287, vi 0, vi (36 * (p : Int) + 6 * (s : Int) + (w : Int))])) (S' := MS I J cc ss) 8 rfl ?_
  refine ev_cv rfl rfl rfl ⟨Nat.le_of_ble_eq_true rfl, Nat.le_of_ble_eq_true rfl⟩ (sp_within X _ (36 * (p : Int) + 6 * (s : Int) + (w : Int)) 0 287 ) ?_
  show Ev X k_X3_number (22, [some (vr 5), some (vi (p : Int)), some (vi (s : Int)), some (vi (w : Int)), some (vi (36 * (p : Int) + 6 * (s : Int) + (w : Int)))], [vi (if 0 ≤ 36 * (p : Int) + 6 * (s : Int) + (w : Int) ∧ 36 * (p : Int) + 6 * (s : Int) + (w : Int) ≤ 287 then 1 else 0)]) (MS I J cc ss) _
  refine ev_beq _ rfl (by decide) (fun (g1 : ¬ (0 ≤ 36 * (p : Int) + 6 * (s : Int) + (w : Int) ∧ 36 * (p : Int) + 6 * (s : Int) + (w : Int) ≤ 287)) => False.elim (by omega)) (fun (g1 : 0 ≤ 36 * (p : Int) + 6 * (s : Int) + (w : Int) ∧ 36 * (p : Int) + 6 * (s : Int) + (w : Int) ≤ 287) => ?_)
  show Ev X k_X3_number (25, [some (vr 5), some (vi (p : Int)), some (vi (s : Int)), some (vi (w : Int)), some (vi (36 * (p : Int) + 6 * (s : Int) + (w : Int)))], []) (MS I J cc ss) _
  refine ev_n (fr' := (31, [some (vr 5), some (vi (p : Int)), some (vi (s : Int)), some (vi (w : Int)), some (vi (36 * (p : Int) + 6 * (s : Int) + (w : Int)))], [vi (36 * (p : Int) + 6 * (s : Int) + (w : Int)), vr 8])) (S' := MS I J cc ss) 3 rfl ?_
  refine ev_iaN (j := 36 * p + 6 * s + w) (z := (g (37 * p + 6 * s + w + 13))) rfl rfl (by omega) (by omega) ((hP.2.2 _ hp).2.2 _ _ hs hq) ?_
  show Ev X k_X3_number (32, [some (vr 5), some (vi (p : Int)), some (vi (s : Int)), some (vi (w : Int)), some (vi (36 * (p : Int) + 6 * (s : Int) + (w : Int)))], [vi (g (37 * p + 6 * s + w + 13))]) (MS I J cc ss) _
  refine ev_n (fr' := (36, [some (vr 5), some (vi (p : Int)), some (vi (s : Int)), some (vi (w : Int)), some (vi (36 * (p : Int) + 6 * (s : Int) + (w : Int)))], [vi (g (37 * p + 6 * s + w + 13))])) (S' := MS I J cc ss) 1 rfl ?_
  refine ev_r rfl rfl rfl ?_
  first | exact ⟨rfl, rfl⟩ | exact ⟨congrArg (fun z => Sum.inl (some (vi z))) (by first | rfl | (rw [if_pos (by omega)]) | (rw [if_neg (by omega)]) | (simp only [*]; done) | omega), rfl⟩
theorem sp_putNumber_5 (X : AX) (I J : Nat → Nat → Int) (cc ss : Nat) {g : F1} (p s w : Nat) (v : Int) (hP : PRep I J 5 g) (h8 : g 11 ≤ 8) (h6 : ∀ q : Nat, (q : Int) < g 11 → g (37 * q + 12) ≤ 6) (hp : (p : Int) < g 11) (hs : (s : Int) < g (37 * p + 12)) (hq : w < 6) : Ev X k_X3_putNumber (0, [some (vr 5), some (vi (p : Int)), some (vi (s : Int)), some (vi (w : Int)), some (vi v), none], []) (MS I J cc ss) (fun o T => o = .inl none ∧ T = MS (up2 I 8 (36 * p + 6 * s + w) v) J cc ss) := by
  have hw3 := h6 p hp
  refine ev_n (fr' := (4, [some (vr 5), some (vi (p : Int)), some (vi (s : Int)), some (vi (w : Int)), some (vi v), none], [vi (w : Int), vi (s : Int), vi (p : Int), vr 5])) (S' := MS I J cc ss) 4 rfl ?_
  refine ev_cv rfl rfl rfl ⟨Nat.le_of_ble_eq_true rfl, Nat.le_of_ble_eq_true rfl⟩ (sp_cellOf2_5 X _ _ _ _ p s w hP h8 h6 (by omega) (by omega) (by omega)) ?_
  show Ev X k_X3_putNumber (7, [some (vr 5), some (vi (p : Int)), some (vi (s : Int)), some (vi (w : Int)), some (vi v), none], [vi (36 * (p : Int) + 6 * (s : Int) + (w : Int))]) (MS I J cc ss) _
  refine ev_n (fr' := (19, [some (vr 5), some (vi (p : Int)), some (vi (s : Int)), some (vi (w : Int)), some (vi v), some (vi (36 * (p : Int) + 6 * (s : Int) + (w : Int)))], [vi 287, vi 0, vi (36 * (p : Int) + 6 * (s : Int) + (w : Int))])) (S' := MS I J cc ss) 8 rfl ?_
  refine ev_cv rfl rfl rfl ⟨Nat.le_of_ble_eq_true rfl, Nat.le_of_ble_eq_true rfl⟩ (sp_within X _ (36 * (p : Int) + 6 * (s : Int) + (w : Int)) 0 287 ) ?_
  show Ev X k_X3_putNumber (22, [some (vr 5), some (vi (p : Int)), some (vi (s : Int)), some (vi (w : Int)), some (vi v), some (vi (36 * (p : Int) + 6 * (s : Int) + (w : Int)))], [vi (if 0 ≤ 36 * (p : Int) + 6 * (s : Int) + (w : Int) ∧ 36 * (p : Int) + 6 * (s : Int) + (w : Int) ≤ 287 then 1 else 0)]) (MS I J cc ss) _
  refine ev_beq _ rfl (by decide) (fun (g1 : ¬ (0 ≤ 36 * (p : Int) + 6 * (s : Int) + (w : Int) ∧ 36 * (p : Int) + 6 * (s : Int) + (w : Int) ≤ 287)) => False.elim (by omega)) (fun (g1 : 0 ≤ 36 * (p : Int) + 6 * (s : Int) + (w : Int) ∧ 36 * (p : Int) + 6 * (s : Int) + (w : Int) ≤ 287) => ?_)
  show Ev X k_X3_putNumber (25, [some (vr 5), some (vi (p : Int)), some (vi (s : Int)), some (vi (w : Int)), some (vi v), some (vi (36 * (p : Int) + 6 * (s : Int) + (w : Int)))], []) (MS I J cc ss) _
  refine ev_n (fr' := (33, [some (vr 5), some (vi (p : Int)), some (vi (s : Int)), some (vi (w : Int)), some (vi v), some (vi (36 * (p : Int) + 6 * (s : Int) + (w : Int)))], [vi v, vi (36 * (p : Int) + 6 * (s : Int) + (w : Int)), vr 8])) (S' := MS I J cc ss) 4 rfl ?_
  refine ev_iasN (j := 36 * p + 6 * s + w) rfl rfl (by omega) (by omega) ?_
  show Ev X k_X3_putNumber (34, [some (vr 5), some (vi (p : Int)), some (vi (s : Int)), some (vi (w : Int)), some (vi v), some (vi (36 * (p : Int) + 6 * (s : Int) + (w : Int)))], []) (MS (up2 I 8 (36 * p + 6 * s + w) v) J cc ss) _
  refine ev_r rfl rfl rfl ?_
  exact ⟨rfl, rfl⟩
theorem sp_cellOf2_9 (X : AX) (I J : Nat → Nat → Int) (cc ss : Nat) {g : F1} (p : Nat) (s : Nat) (w : Nat) (hI : IRep I J 9 g) (h8 : g 308 ≤ 8) (h6 : ∀ q : Nat, (q : Int) < g 308 → g (19 * q + 309) ≤ 6) (hp : (p : Int) < g 308) (hs : (s : Int) < g (19 * p + 309)) (hq : w < 3) : Ev X k_X3_cellOf (0, [some (vr 9), some (vi (p : Int)), some (vi (s : Int)), some (vi (w : Int))], []) (MS I J cc ss) (fun o T => o = .inl (some (vi (18 * (p : Int) + 3 * (s : Int) + (w : Int)))) ∧ T = MS I J cc ss) := by
  have hw3 := h6 p hp
  refine ev_n (fr' := (1, [some (vr 9), some (vi (p : Int)), some (vi (s : Int)), some (vi (w : Int))], [vi (p : Int)])) (S' := MS I J cc ss) 1 rfl ?_
  refine ev_if (c := .lt) (off := 37) rfl (by decide) (fun (g1 : (p : Int) < 0) => False.elim (by omega)) (fun (g1 : ¬ ((p : Int) < 0)) => ?_)
  show Ev X k_X3_cellOf (4, [some (vr 9), some (vi (p : Int)), some (vi (s : Int)), some (vi (w : Int))], []) (MS I J cc ss) _
  refine ev_n (fr' := (9, [some (vr 9), some (vi (p : Int)), some (vi (s : Int)), some (vi (w : Int))], [vi (I 9 4), vi (p : Int)])) (S' := MS I J cc ss) 3 rfl ?_
  refine ev_eqi (hI.2.1) ?_
  show Ev X k_X3_cellOf (9, [some (vr 9), some (vi (p : Int)), some (vi (s : Int)), some (vi (w : Int))], [vi (g 308), vi (p : Int)]) (MS I J cc ss) _
  refine ev_ic (c := .ge) (off := 29) rfl (by decide) (fun (g2 : (g 308) ≤ (p : Int)) => False.elim (by omega)) (fun (g2 : ¬ ((g 308) ≤ (p : Int))) => ?_)
  show Ev X k_X3_cellOf (12, [some (vr 9), some (vi (p : Int)), some (vi (s : Int)), some (vi (w : Int))], []) (MS I J cc ss) _
  refine ev_n (fr' := (13, [some (vr 9), some (vi (p : Int)), some (vi (s : Int)), some (vi (w : Int))], [vi (s : Int)])) (S' := MS I J cc ss) 1 rfl ?_
  refine ev_if (c := .lt) (off := 25) rfl (by decide) (fun (g3 : (s : Int) < 0) => False.elim (by omega)) (fun (g3 : ¬ ((s : Int) < 0)) => ?_)
  show Ev X k_X3_cellOf (16, [some (vr 9), some (vi (p : Int)), some (vi (s : Int)), some (vi (w : Int))], []) (MS I J cc ss) _
  refine ev_n (fr' := (22, [some (vr 9), some (vi (p : Int)), some (vi (s : Int)), some (vi (w : Int))], [vi (p : Int), vr 11, vi (s : Int)])) (S' := MS I J cc ss) 4 rfl ?_
  refine ev_iaN (j := p) (z := (g (19 * p + 309))) rfl rfl (by omega) (by omega) ((hI.2.2 _ (by omega)).2.1) ?_
  show Ev X k_X3_cellOf (23, [some (vr 9), some (vi (p : Int)), some (vi (s : Int)), some (vi (w : Int))], [vi (g (19 * p + 309)), vi (s : Int)]) (MS I J cc ss) _
  refine ev_ic (c := .ge) (off := 15) rfl (by decide) (fun (g4 : (g (19 * p + 309)) ≤ (s : Int)) => False.elim (by omega)) (fun (g4 : ¬ ((g (19 * p + 309)) ≤ (s : Int))) => ?_)
  show Ev X k_X3_cellOf (26, [some (vr 9), some (vi (p : Int)), some (vi (s : Int)), some (vi (w : Int))], []) (MS I J cc ss) _
  refine ev_n (fr' := (27, [some (vr 9), some (vi (p : Int)), some (vi (s : Int)), some (vi (w : Int))], [vi (w : Int)])) (S' := MS I J cc ss) 1 rfl ?_
  refine ev_if (c := .lt) (off := 11) rfl (by decide) (fun (g5 : (w : Int) < 0) => False.elim (by omega)) (fun (g5 : ¬ ((w : Int) < 0)) => ?_)
  show Ev X k_X3_cellOf (30, [some (vr 9), some (vi (p : Int)), some (vi (s : Int)), some (vi (w : Int))], []) (MS I J cc ss) _
  refine ev_n (fr' := (35, [some (vr 9), some (vi (p : Int)), some (vi (s : Int)), some (vi (w : Int))], [vi (I 9 0), vi (w : Int)])) (S' := MS I J cc ss) 3 rfl ?_
  refine ev_eqi (hI.1) ?_
  show Ev X k_X3_cellOf (35, [some (vr 9), some (vi (p : Int)), some (vi (s : Int)), some (vi (w : Int))], [vi 3, vi (w : Int)]) (MS I J cc ss) _
  refine ev_ic (c := .lt) (off := 5) rfl (by decide) (fun (g6 : (w : Int) < 3) => ?_) (fun (g6 : ¬ ((w : Int) < 3)) => False.elim (by omega))
  show Ev X k_X3_cellOf (40, [some (vr 9), some (vi (p : Int)), some (vi (s : Int)), some (vi (w : Int))], []) (MS I J cc ss) _
  refine ev_n (fr' := (43, [some (vr 9), some (vi (p : Int)), some (vi (s : Int)), some (vi (w : Int))], [vi 6, vi (p : Int)])) (S' := MS I J cc ss) 2 rfl ?_
  refine ev_mul (z := 6 * (p : Int)) rfl (by omega) (by omega) (by omega) ?_
  show Ev X k_X3_cellOf (44, [some (vr 9), some (vi (p : Int)), some (vi (s : Int)), some (vi (w : Int))], [vi (6 * (p : Int))]) (MS I J cc ss) _
  refine ev_n (fr' := (45, [some (vr 9), some (vi (p : Int)), some (vi (s : Int)), some (vi (w : Int))], [vi (s : Int), vi (6 * (p : Int))])) (S' := MS I J cc ss) 1 rfl ?_
  refine ev_add (z := 6 * (p : Int) + (s : Int)) rfl (by omega) (by omega) (by omega) ?_
  show Ev X k_X3_cellOf (46, [some (vr 9), some (vi (p : Int)), some (vi (s : Int)), some (vi (w : Int))], [vi (6 * (p : Int) + (s : Int))]) (MS I J cc ss) _
  refine ev_n (fr' := (50, [some (vr 9), some (vi (p : Int)), some (vi (s : Int)), some (vi (w : Int))], [vi (I 9 0), vi (6 * (p : Int) + (s : Int))])) (S' := MS I J cc ss) 2 rfl ?_
  refine ev_eqi (hI.1) ?_
  show Ev X k_X3_cellOf (50, [some (vr 9), some (vi (p : Int)), some (vi (s : Int)), some (vi (w : Int))], [vi 3, vi (6 * (p : Int) + (s : Int))]) (MS I J cc ss) _
  refine ev_mul (z := 18 * (p : Int) + 3 * (s : Int)) rfl (by omega) (by omega) (by omega) ?_
  show Ev X k_X3_cellOf (51, [some (vr 9), some (vi (p : Int)), some (vi (s : Int)), some (vi (w : Int))], [vi (18 * (p : Int) + 3 * (s : Int))]) (MS I J cc ss) _
  refine ev_n (fr' := (52, [some (vr 9), some (vi (p : Int)), some (vi (s : Int)), some (vi (w : Int))], [vi (w : Int), vi (18 * (p : Int) + 3 * (s : Int))])) (S' := MS I J cc ss) 1 rfl ?_
  refine ev_add (z := 18 * (p : Int) + 3 * (s : Int) + (w : Int)) rfl (by omega) (by omega) (by omega) ?_
  show Ev X k_X3_cellOf (53, [some (vr 9), some (vi (p : Int)), some (vi (s : Int)), some (vi (w : Int))], [vi (18 * (p : Int) + 3 * (s : Int) + (w : Int))]) (MS I J cc ss) _
  refine ev_r rfl rfl rfl ?_
  first | exact ⟨rfl, rfl⟩ | exact ⟨congrArg (fun z => Sum.inl (some (vi z))) (by first | rfl | (rw [if_pos (by omega)]) | (rw [if_neg (by omega)]) | (simp only [*]; done) | omega), rfl⟩
theorem sp_number2_9 (X : AX) (I J : Nat → Nat → Int) (cc ss : Nat) {g : F1} (p : Nat) (s : Nat) (w : Nat) (hI : IRep I J 9 g) (h8 : g 308 ≤ 8) (h6 : ∀ q : Nat, (q : Int) < g 308 → g (19 * q + 309) ≤ 6) (hp : (p : Int) < g 308) (hs : (s : Int) < g (19 * p + 309)) (hq : w < 3) : Ev X k_X3_number (0, [some (vr 9), some (vi (p : Int)), some (vi (s : Int)), some (vi (w : Int)), none], []) (MS I J cc ss) (fun o T => o = .inl (some (vi (g (19 * p + 3 * s + w + 310)))) ∧ T = MS I J cc ss) := by
  have hw3 := h6 p hp
  refine ev_n (fr' := (4, [some (vr 9), some (vi (p : Int)), some (vi (s : Int)), some (vi (w : Int)), none], [vi (w : Int), vi (s : Int), vi (p : Int), vr 9])) (S' := MS I J cc ss) 4 rfl ?_
  refine ev_cv rfl rfl rfl ⟨Nat.le_of_ble_eq_true rfl, Nat.le_of_ble_eq_true rfl⟩ (sp_cellOf2_9 X _ _ _ _ p s w hI h8 h6 (by omega) (by omega) (by omega)) ?_
  show Ev X k_X3_number (7, [some (vr 9), some (vi (p : Int)), some (vi (s : Int)), some (vi (w : Int)), none], [vi (18 * (p : Int) + 3 * (s : Int) + (w : Int))]) (MS I J cc ss) _
  refine ev_n (fr' := (19, [some (vr 9), some (vi (p : Int)), some (vi (s : Int)), some (vi (w : Int)), some (vi (18 * (p : Int) + 3 * (s : Int) + (w : Int)))], [vi 143, vi 0, vi (18 * (p : Int) + 3 * (s : Int) + (w : Int))])) (S' := MS I J cc ss) 8 rfl ?_
  refine ev_cv rfl rfl rfl ⟨Nat.le_of_ble_eq_true rfl, Nat.le_of_ble_eq_true rfl⟩ (sp_within X _ (18 * (p : Int) + 3 * (s : Int) + (w : Int)) 0 143 ) ?_
  show Ev X k_X3_number (22, [some (vr 9), some (vi (p : Int)), some (vi (s : Int)), some (vi (w : Int)), some (vi (18 * (p : Int) + 3 * (s : Int) + (w : Int)))], [vi (if 0 ≤ 18 * (p : Int) + 3 * (s : Int) + (w : Int) ∧ 18 * (p : Int) + 3 * (s : Int) + (w : Int) ≤ 143 then 1 else 0)]) (MS I J cc ss) _
  refine ev_beq _ rfl (by decide) (fun (g1 : ¬ (0 ≤ 18 * (p : Int) + 3 * (s : Int) + (w : Int) ∧ 18 * (p : Int) + 3 * (s : Int) + (w : Int) ≤ 143)) => False.elim (by omega)) (fun (g1 : 0 ≤ 18 * (p : Int) + 3 * (s : Int) + (w : Int) ∧ 18 * (p : Int) + 3 * (s : Int) + (w : Int) ≤ 143) => ?_)
  show Ev X k_X3_number (25, [some (vr 9), some (vi (p : Int)), some (vi (s : Int)), some (vi (w : Int)), some (vi (18 * (p : Int) + 3 * (s : Int) + (w : Int)))], []) (MS I J cc ss) _
  refine ev_n (fr' := (31, [some (vr 9), some (vi (p : Int)), some (vi (s : Int)), some (vi (w : Int)), some (vi (18 * (p : Int) + 3 * (s : Int) + (w : Int)))], [vi (18 * (p : Int) + 3 * (s : Int) + (w : Int)), vr 12])) (S' := MS I J cc ss) 3 rfl ?_
  refine ev_iaN (j := 18 * p + 3 * s + w) (z := (g (19 * p + 3 * s + w + 310))) rfl rfl (by omega) (by omega) ((hI.2.2 _ hp).2.2 _ _ hs hq) ?_
  show Ev X k_X3_number (32, [some (vr 9), some (vi (p : Int)), some (vi (s : Int)), some (vi (w : Int)), some (vi (18 * (p : Int) + 3 * (s : Int) + (w : Int)))], [vi (g (19 * p + 3 * s + w + 310))]) (MS I J cc ss) _
  refine ev_n (fr' := (36, [some (vr 9), some (vi (p : Int)), some (vi (s : Int)), some (vi (w : Int)), some (vi (18 * (p : Int) + 3 * (s : Int) + (w : Int)))], [vi (g (19 * p + 3 * s + w + 310))])) (S' := MS I J cc ss) 1 rfl ?_
  refine ev_r rfl rfl rfl ?_
  first | exact ⟨rfl, rfl⟩ | exact ⟨congrArg (fun z => Sum.inl (some (vi z))) (by first | rfl | (rw [if_pos (by omega)]) | (rw [if_neg (by omega)]) | (simp only [*]; done) | omega), rfl⟩
theorem sp_putNumber_9 (X : AX) (I J : Nat → Nat → Int) (cc ss : Nat) {g : F1} (p s w : Nat) (v : Int) (hI : IRep I J 9 g) (h8 : g 308 ≤ 8) (h6 : ∀ q : Nat, (q : Int) < g 308 → g (19 * q + 309) ≤ 6) (hp : (p : Int) < g 308) (hs : (s : Int) < g (19 * p + 309)) (hq : w < 3) : Ev X k_X3_putNumber (0, [some (vr 9), some (vi (p : Int)), some (vi (s : Int)), some (vi (w : Int)), some (vi v), none], []) (MS I J cc ss) (fun o T => o = .inl none ∧ T = MS (up2 I 12 (18 * p + 3 * s + w) v) J cc ss) := by
  have hw3 := h6 p hp
  refine ev_n (fr' := (4, [some (vr 9), some (vi (p : Int)), some (vi (s : Int)), some (vi (w : Int)), some (vi v), none], [vi (w : Int), vi (s : Int), vi (p : Int), vr 9])) (S' := MS I J cc ss) 4 rfl ?_
  refine ev_cv rfl rfl rfl ⟨Nat.le_of_ble_eq_true rfl, Nat.le_of_ble_eq_true rfl⟩ (sp_cellOf2_9 X _ _ _ _ p s w hI h8 h6 (by omega) (by omega) (by omega)) ?_
  show Ev X k_X3_putNumber (7, [some (vr 9), some (vi (p : Int)), some (vi (s : Int)), some (vi (w : Int)), some (vi v), none], [vi (18 * (p : Int) + 3 * (s : Int) + (w : Int))]) (MS I J cc ss) _
  refine ev_n (fr' := (19, [some (vr 9), some (vi (p : Int)), some (vi (s : Int)), some (vi (w : Int)), some (vi v), some (vi (18 * (p : Int) + 3 * (s : Int) + (w : Int)))], [vi 143, vi 0, vi (18 * (p : Int) + 3 * (s : Int) + (w : Int))])) (S' := MS I J cc ss) 8 rfl ?_
  refine ev_cv rfl rfl rfl ⟨Nat.le_of_ble_eq_true rfl, Nat.le_of_ble_eq_true rfl⟩ (sp_within X _ (18 * (p : Int) + 3 * (s : Int) + (w : Int)) 0 143 ) ?_
  show Ev X k_X3_putNumber (22, [some (vr 9), some (vi (p : Int)), some (vi (s : Int)), some (vi (w : Int)), some (vi v), some (vi (18 * (p : Int) + 3 * (s : Int) + (w : Int)))], [vi (if 0 ≤ 18 * (p : Int) + 3 * (s : Int) + (w : Int) ∧ 18 * (p : Int) + 3 * (s : Int) + (w : Int) ≤ 143 then 1 else 0)]) (MS I J cc ss) _
  refine ev_beq _ rfl (by decide) (fun (g1 : ¬ (0 ≤ 18 * (p : Int) + 3 * (s : Int) + (w : Int) ∧ 18 * (p : Int) + 3 * (s : Int) + (w : Int) ≤ 143)) => False.elim (by omega)) (fun (g1 : 0 ≤ 18 * (p : Int) + 3 * (s : Int) + (w : Int) ∧ 18 * (p : Int) + 3 * (s : Int) + (w : Int) ≤ 143) => ?_)
  show Ev X k_X3_putNumber (25, [some (vr 9), some (vi (p : Int)), some (vi (s : Int)), some (vi (w : Int)), some (vi v), some (vi (18 * (p : Int) + 3 * (s : Int) + (w : Int)))], []) (MS I J cc ss) _
  refine ev_n (fr' := (33, [some (vr 9), some (vi (p : Int)), some (vi (s : Int)), some (vi (w : Int)), some (vi v), some (vi (18 * (p : Int) + 3 * (s : Int) + (w : Int)))], [vi v, vi (18 * (p : Int) + 3 * (s : Int) + (w : Int)), vr 12])) (S' := MS I J cc ss) 4 rfl ?_
  refine ev_iasN (j := 18 * p + 3 * s + w) rfl rfl (by omega) (by omega) ?_
  show Ev X k_X3_putNumber (34, [some (vr 9), some (vi (p : Int)), some (vi (s : Int)), some (vi (w : Int)), some (vi v), some (vi (18 * (p : Int) + 3 * (s : Int) + (w : Int)))], []) (MS (up2 I 12 (18 * p + 3 * s + w) v) J cc ss) _
  refine ev_r rfl rfl rfl ?_
  exact ⟨rfl, rfl⟩
theorem sp_cellOf2_118 (X : AX) (I J : Nat → Nat → Int) (cc ss : Nat) {d : F1} (p : Nat) (s : Nat) (w : Nat) (dP : PRep I J 118 d) (h8 : d 11 ≤ 8) (h6 : ∀ q : Nat, (q : Int) < d 11 → d (37 * q + 12) ≤ 6) (hp : (p : Int) < d 11) (hs : (s : Int) < d (37 * p + 12)) (hq : w < 6) : Ev X k_X3_cellOf (0, [some (vr 118), some (vi (p : Int)), some (vi (s : Int)), some (vi (w : Int))], []) (MS I J cc ss) (fun o T => o = .inl (some (vi (36 * (p : Int) + 6 * (s : Int) + (w : Int)))) ∧ T = MS I J cc ss) := by
  have hw3 := h6 p hp
  refine ev_n (fr' := (1, [some (vr 118), some (vi (p : Int)), some (vi (s : Int)), some (vi (w : Int))], [vi (p : Int)])) (S' := MS I J cc ss) 1 rfl ?_
  refine ev_if (c := .lt) (off := 37) rfl (by decide) (fun (g1 : (p : Int) < 0) => False.elim (by omega)) (fun (g1 : ¬ ((p : Int) < 0)) => ?_)
  show Ev X k_X3_cellOf (4, [some (vr 118), some (vi (p : Int)), some (vi (s : Int)), some (vi (w : Int))], []) (MS I J cc ss) _
  refine ev_n (fr' := (9, [some (vr 118), some (vi (p : Int)), some (vi (s : Int)), some (vi (w : Int))], [vi (I 118 4), vi (p : Int)])) (S' := MS I J cc ss) 3 rfl ?_
  refine ev_eqi (dP.2.1) ?_
  show Ev X k_X3_cellOf (9, [some (vr 118), some (vi (p : Int)), some (vi (s : Int)), some (vi (w : Int))], [vi (d 11), vi (p : Int)]) (MS I J cc ss) _
  refine ev_ic (c := .ge) (off := 29) rfl (by decide) (fun (g2 : (d 11) ≤ (p : Int)) => False.elim (by omega)) (fun (g2 : ¬ ((d 11) ≤ (p : Int))) => ?_)
  show Ev X k_X3_cellOf (12, [some (vr 118), some (vi (p : Int)), some (vi (s : Int)), some (vi (w : Int))], []) (MS I J cc ss) _
  refine ev_n (fr' := (13, [some (vr 118), some (vi (p : Int)), some (vi (s : Int)), some (vi (w : Int))], [vi (s : Int)])) (S' := MS I J cc ss) 1 rfl ?_
  refine ev_if (c := .lt) (off := 25) rfl (by decide) (fun (g3 : (s : Int) < 0) => False.elim (by omega)) (fun (g3 : ¬ ((s : Int) < 0)) => ?_)
  show Ev X k_X3_cellOf (16, [some (vr 118), some (vi (p : Int)), some (vi (s : Int)), some (vi (w : Int))], []) (MS I J cc ss) _
  refine ev_n (fr' := (22, [some (vr 118), some (vi (p : Int)), some (vi (s : Int)), some (vi (w : Int))], [vi (p : Int), vr 120, vi (s : Int)])) (S' := MS I J cc ss) 4 rfl ?_
  refine ev_iaN (j := p) (z := (d (37 * p + 12))) rfl rfl (by omega) (by omega) ((dP.2.2 _ (by omega)).2.1) ?_
  show Ev X k_X3_cellOf (23, [some (vr 118), some (vi (p : Int)), some (vi (s : Int)), some (vi (w : Int))], [vi (d (37 * p + 12)), vi (s : Int)]) (MS I J cc ss) _
  refine ev_ic (c := .ge) (off := 15) rfl (by decide) (fun (g4 : (d (37 * p + 12)) ≤ (s : Int)) => False.elim (by omega)) (fun (g4 : ¬ ((d (37 * p + 12)) ≤ (s : Int))) => ?_)
  show Ev X k_X3_cellOf (26, [some (vr 118), some (vi (p : Int)), some (vi (s : Int)), some (vi (w : Int))], []) (MS I J cc ss) _
  refine ev_n (fr' := (27, [some (vr 118), some (vi (p : Int)), some (vi (s : Int)), some (vi (w : Int))], [vi (w : Int)])) (S' := MS I J cc ss) 1 rfl ?_
  refine ev_if (c := .lt) (off := 11) rfl (by decide) (fun (g5 : (w : Int) < 0) => False.elim (by omega)) (fun (g5 : ¬ ((w : Int) < 0)) => ?_)
  show Ev X k_X3_cellOf (30, [some (vr 118), some (vi (p : Int)), some (vi (s : Int)), some (vi (w : Int))], []) (MS I J cc ss) _
  refine ev_n (fr' := (35, [some (vr 118), some (vi (p : Int)), some (vi (s : Int)), some (vi (w : Int))], [vi (I 118 0), vi (w : Int)])) (S' := MS I J cc ss) 3 rfl ?_
  refine ev_eqi (dP.1) ?_
  show Ev X k_X3_cellOf (35, [some (vr 118), some (vi (p : Int)), some (vi (s : Int)), some (vi (w : Int))], [vi 6, vi (w : Int)]) (MS I J cc ss) _
  refine ev_ic (c := .lt) (off := 5) rfl (by decide) (fun (g6 : (w : Int) < 6) => ?_) (fun (g6 : ¬ ((w : Int) < 6)) => False.elim (by omega))
  show Ev X k_X3_cellOf (40, [some (vr 118), some (vi (p : Int)), some (vi (s : Int)), some (vi (w : Int))], []) (MS I J cc ss) _
  refine ev_n (fr' := (43, [some (vr 118), some (vi (p : Int)), some (vi (s : Int)), some (vi (w : Int))], [vi 6, vi (p : Int)])) (S' := MS I J cc ss) 2 rfl ?_
  refine ev_mul (z := 6 * (p : Int)) rfl (by omega) (by omega) (by omega) ?_
  show Ev X k_X3_cellOf (44, [some (vr 118), some (vi (p : Int)), some (vi (s : Int)), some (vi (w : Int))], [vi (6 * (p : Int))]) (MS I J cc ss) _
  refine ev_n (fr' := (45, [some (vr 118), some (vi (p : Int)), some (vi (s : Int)), some (vi (w : Int))], [vi (s : Int), vi (6 * (p : Int))])) (S' := MS I J cc ss) 1 rfl ?_
  refine ev_add (z := 6 * (p : Int) + (s : Int)) rfl (by omega) (by omega) (by omega) ?_
  show Ev X k_X3_cellOf (46, [some (vr 118), some (vi (p : Int)), some (vi (s : Int)), some (vi (w : Int))], [vi (6 * (p : Int) + (s : Int))]) (MS I J cc ss) _
  refine ev_n (fr' := (50, [some (vr 118), some (vi (p : Int)), some (vi (s : Int)), some (vi (w : Int))], [vi (I 118 0), vi (6 * (p : Int) + (s : Int))])) (S' := MS I J cc ss) 2 rfl ?_
  refine ev_eqi (dP.1) ?_
  show Ev X k_X3_cellOf (50, [some (vr 118), some (vi (p : Int)), some (vi (s : Int)), some (vi (w : Int))], [vi 6, vi (6 * (p : Int) + (s : Int))]) (MS I J cc ss) _
  refine ev_mul (z := 36 * (p : Int) + 6 * (s : Int)) rfl (by omega) (by omega) (by omega) ?_
  show Ev X k_X3_cellOf (51, [some (vr 118), some (vi (p : Int)), some (vi (s : Int)), some (vi (w : Int))], [vi (36 * (p : Int) + 6 * (s : Int))]) (MS I J cc ss) _
  refine ev_n (fr' := (52, [some (vr 118), some (vi (p : Int)), some (vi (s : Int)), some (vi (w : Int))], [vi (w : Int), vi (36 * (p : Int) + 6 * (s : Int))])) (S' := MS I J cc ss) 1 rfl ?_
  refine ev_add (z := 36 * (p : Int) + 6 * (s : Int) + (w : Int)) rfl (by omega) (by omega) (by omega) ?_
  show Ev X k_X3_cellOf (53, [some (vr 118), some (vi (p : Int)), some (vi (s : Int)), some (vi (w : Int))], [vi (36 * (p : Int) + 6 * (s : Int) + (w : Int))]) (MS I J cc ss) _
  refine ev_r rfl rfl rfl ?_
  first | exact ⟨rfl, rfl⟩ | exact ⟨congrArg (fun z => Sum.inl (some (vi z))) (by first | rfl | (rw [if_pos (by omega)]) | (rw [if_neg (by omega)]) | (simp only [*]; done) | omega), rfl⟩
theorem sp_number2_118 (X : AX) (I J : Nat → Nat → Int) (cc ss : Nat) {d : F1} (p : Nat) (s : Nat) (w : Nat) (dP : PRep I J 118 d) (h8 : d 11 ≤ 8) (h6 : ∀ q : Nat, (q : Int) < d 11 → d (37 * q + 12) ≤ 6) (hp : (p : Int) < d 11) (hs : (s : Int) < d (37 * p + 12)) (hq : w < 6) : Ev X k_X3_number (0, [some (vr 118), some (vi (p : Int)), some (vi (s : Int)), some (vi (w : Int)), none], []) (MS I J cc ss) (fun o T => o = .inl (some (vi (d (37 * p + 6 * s + w + 13)))) ∧ T = MS I J cc ss) := by
  have hw3 := h6 p hp
  refine ev_n (fr' := (4, [some (vr 118), some (vi (p : Int)), some (vi (s : Int)), some (vi (w : Int)), none], [vi (w : Int), vi (s : Int), vi (p : Int), vr 118])) (S' := MS I J cc ss) 4 rfl ?_
  refine ev_cv rfl rfl rfl ⟨Nat.le_of_ble_eq_true rfl, Nat.le_of_ble_eq_true rfl⟩ (sp_cellOf2_118 X _ _ _ _ p s w dP h8 h6 (by omega) (by omega) (by omega)) ?_
  show Ev X k_X3_number (7, [some (vr 118), some (vi (p : Int)), some (vi (s : Int)), some (vi (w : Int)), none], [vi (36 * (p : Int) + 6 * (s : Int) + (w : Int))]) (MS I J cc ss) _
  refine ev_n (fr' := (19, [some (vr 118), some (vi (p : Int)), some (vi (s : Int)), some (vi (w : Int)), some (vi (36 * (p : Int) + 6 * (s : Int) + (w : Int)))], [vi 287, vi 0, vi (36 * (p : Int) + 6 * (s : Int) + (w : Int))])) (S' := MS I J cc ss) 8 rfl ?_
  refine ev_cv rfl rfl rfl ⟨Nat.le_of_ble_eq_true rfl, Nat.le_of_ble_eq_true rfl⟩ (sp_within X _ (36 * (p : Int) + 6 * (s : Int) + (w : Int)) 0 287 ) ?_
  show Ev X k_X3_number (22, [some (vr 118), some (vi (p : Int)), some (vi (s : Int)), some (vi (w : Int)), some (vi (36 * (p : Int) + 6 * (s : Int) + (w : Int)))], [vi (if 0 ≤ 36 * (p : Int) + 6 * (s : Int) + (w : Int) ∧ 36 * (p : Int) + 6 * (s : Int) + (w : Int) ≤ 287 then 1 else 0)]) (MS I J cc ss) _
  refine ev_beq _ rfl (by decide) (fun (g1 : ¬ (0 ≤ 36 * (p : Int) + 6 * (s : Int) + (w : Int) ∧ 36 * (p : Int) + 6 * (s : Int) + (w : Int) ≤ 287)) => False.elim (by omega)) (fun (g1 : 0 ≤ 36 * (p : Int) + 6 * (s : Int) + (w : Int) ∧ 36 * (p : Int) + 6 * (s : Int) + (w : Int) ≤ 287) => ?_)
  show Ev X k_X3_number (25, [some (vr 118), some (vi (p : Int)), some (vi (s : Int)), some (vi (w : Int)), some (vi (36 * (p : Int) + 6 * (s : Int) + (w : Int)))], []) (MS I J cc ss) _
  refine ev_n (fr' := (31, [some (vr 118), some (vi (p : Int)), some (vi (s : Int)), some (vi (w : Int)), some (vi (36 * (p : Int) + 6 * (s : Int) + (w : Int)))], [vi (36 * (p : Int) + 6 * (s : Int) + (w : Int)), vr 121])) (S' := MS I J cc ss) 3 rfl ?_
  refine ev_iaN (j := 36 * p + 6 * s + w) (z := (d (37 * p + 6 * s + w + 13))) rfl rfl (by omega) (by omega) ((dP.2.2 _ hp).2.2 _ _ hs hq) ?_
  show Ev X k_X3_number (32, [some (vr 118), some (vi (p : Int)), some (vi (s : Int)), some (vi (w : Int)), some (vi (36 * (p : Int) + 6 * (s : Int) + (w : Int)))], [vi (d (37 * p + 6 * s + w + 13))]) (MS I J cc ss) _
  refine ev_n (fr' := (36, [some (vr 118), some (vi (p : Int)), some (vi (s : Int)), some (vi (w : Int)), some (vi (36 * (p : Int) + 6 * (s : Int) + (w : Int)))], [vi (d (37 * p + 6 * s + w + 13))])) (S' := MS I J cc ss) 1 rfl ?_
  refine ev_r rfl rfl rfl ?_
  first | exact ⟨rfl, rfl⟩ | exact ⟨congrArg (fun z => Sum.inl (some (vi z))) (by first | rfl | (rw [if_pos (by omega)]) | (rw [if_neg (by omega)]) | (simp only [*]; done) | omega), rfl⟩
theorem sp_putNumber_118 (X : AX) (I J : Nat → Nat → Int) (cc ss : Nat) {d : F1} (p s w : Nat) (v : Int) (dP : PRep I J 118 d) (h8 : d 11 ≤ 8) (h6 : ∀ q : Nat, (q : Int) < d 11 → d (37 * q + 12) ≤ 6) (hp : (p : Int) < d 11) (hs : (s : Int) < d (37 * p + 12)) (hq : w < 6) : Ev X k_X3_putNumber (0, [some (vr 118), some (vi (p : Int)), some (vi (s : Int)), some (vi (w : Int)), some (vi v), none], []) (MS I J cc ss) (fun o T => o = .inl none ∧ T = MS (up2 I 121 (36 * p + 6 * s + w) v) J cc ss) := by
  have hw3 := h6 p hp
  refine ev_n (fr' := (4, [some (vr 118), some (vi (p : Int)), some (vi (s : Int)), some (vi (w : Int)), some (vi v), none], [vi (w : Int), vi (s : Int), vi (p : Int), vr 118])) (S' := MS I J cc ss) 4 rfl ?_
  refine ev_cv rfl rfl rfl ⟨Nat.le_of_ble_eq_true rfl, Nat.le_of_ble_eq_true rfl⟩ (sp_cellOf2_118 X _ _ _ _ p s w dP h8 h6 (by omega) (by omega) (by omega)) ?_
  show Ev X k_X3_putNumber (7, [some (vr 118), some (vi (p : Int)), some (vi (s : Int)), some (vi (w : Int)), some (vi v), none], [vi (36 * (p : Int) + 6 * (s : Int) + (w : Int))]) (MS I J cc ss) _
  refine ev_n (fr' := (19, [some (vr 118), some (vi (p : Int)), some (vi (s : Int)), some (vi (w : Int)), some (vi v), some (vi (36 * (p : Int) + 6 * (s : Int) + (w : Int)))], [vi 287, vi 0, vi (36 * (p : Int) + 6 * (s : Int) + (w : Int))])) (S' := MS I J cc ss) 8 rfl ?_
  refine ev_cv rfl rfl rfl ⟨Nat.le_of_ble_eq_true rfl, Nat.le_of_ble_eq_true rfl⟩ (sp_within X _ (36 * (p : Int) + 6 * (s : Int) + (w : Int)) 0 287 ) ?_
  show Ev X k_X3_putNumber (22, [some (vr 118), some (vi (p : Int)), some (vi (s : Int)), some (vi (w : Int)), some (vi v), some (vi (36 * (p : Int) + 6 * (s : Int) + (w : Int)))], [vi (if 0 ≤ 36 * (p : Int) + 6 * (s : Int) + (w : Int) ∧ 36 * (p : Int) + 6 * (s : Int) + (w : Int) ≤ 287 then 1 else 0)]) (MS I J cc ss) _
  refine ev_beq _ rfl (by decide) (fun (g1 : ¬ (0 ≤ 36 * (p : Int) + 6 * (s : Int) + (w : Int) ∧ 36 * (p : Int) + 6 * (s : Int) + (w : Int) ≤ 287)) => False.elim (by omega)) (fun (g1 : 0 ≤ 36 * (p : Int) + 6 * (s : Int) + (w : Int) ∧ 36 * (p : Int) + 6 * (s : Int) + (w : Int) ≤ 287) => ?_)
  show Ev X k_X3_putNumber (25, [some (vr 118), some (vi (p : Int)), some (vi (s : Int)), some (vi (w : Int)), some (vi v), some (vi (36 * (p : Int) + 6 * (s : Int) + (w : Int)))], []) (MS I J cc ss) _
  refine ev_n (fr' := (33, [some (vr 118), some (vi (p : Int)), some (vi (s : Int)), some (vi (w : Int)), some (vi v), some (vi (36 * (p : Int) + 6 * (s : Int) + (w : Int)))], [vi v, vi (36 * (p : Int) + 6 * (s : Int) + (w : Int)), vr 121])) (S' := MS I J cc ss) 4 rfl ?_
  refine ev_iasN (j := 36 * p + 6 * s + w) rfl rfl (by omega) (by omega) ?_
  show Ev X k_X3_putNumber (34, [some (vr 118), some (vi (p : Int)), some (vi (s : Int)), some (vi (w : Int)), some (vi v), some (vi (36 * (p : Int) + 6 * (s : Int) + (w : Int)))], []) (MS (up2 I 121 (36 * p + 6 * s + w) v) J cc ss) _
  refine ev_r rfl rfl rfl ?_
  exact ⟨rfl, rfl⟩
theorem sp_cellOf2_122 (X : AX) (I J : Nat → Nat → Int) (cc ss : Nat) {d : F1} (p : Nat) (s : Nat) (w : Nat) (dI : IRep I J 122 d) (h8 : d 308 ≤ 8) (h6 : ∀ q : Nat, (q : Int) < d 308 → d (19 * q + 309) ≤ 6) (hp : (p : Int) < d 308) (hs : (s : Int) < d (19 * p + 309)) (hq : w < 3) : Ev X k_X3_cellOf (0, [some (vr 122), some (vi (p : Int)), some (vi (s : Int)), some (vi (w : Int))], []) (MS I J cc ss) (fun o T => o = .inl (some (vi (18 * (p : Int) + 3 * (s : Int) + (w : Int)))) ∧ T = MS I J cc ss) := by
  have hw3 := h6 p hp
  refine ev_n (fr' := (1, [some (vr 122), some (vi (p : Int)), some (vi (s : Int)), some (vi (w : Int))], [vi (p : Int)])) (S' := MS I J cc ss) 1 rfl ?_
  refine ev_if (c := .lt) (off := 37) rfl (by decide) (fun (g1 : (p : Int) < 0) => False.elim (by omega)) (fun (g1 : ¬ ((p : Int) < 0)) => ?_)
  show Ev X k_X3_cellOf (4, [some (vr 122), some (vi (p : Int)), some (vi (s : Int)), some (vi (w : Int))], []) (MS I J cc ss) _
  refine ev_n (fr' := (9, [some (vr 122), some (vi (p : Int)), some (vi (s : Int)), some (vi (w : Int))], [vi (I 122 4), vi (p : Int)])) (S' := MS I J cc ss) 3 rfl ?_
  refine ev_eqi (dI.2.1) ?_
  show Ev X k_X3_cellOf (9, [some (vr 122), some (vi (p : Int)), some (vi (s : Int)), some (vi (w : Int))], [vi (d 308), vi (p : Int)]) (MS I J cc ss) _
  refine ev_ic (c := .ge) (off := 29) rfl (by decide) (fun (g2 : (d 308) ≤ (p : Int)) => False.elim (by omega)) (fun (g2 : ¬ ((d 308) ≤ (p : Int))) => ?_)
  show Ev X k_X3_cellOf (12, [some (vr 122), some (vi (p : Int)), some (vi (s : Int)), some (vi (w : Int))], []) (MS I J cc ss) _
  refine ev_n (fr' := (13, [some (vr 122), some (vi (p : Int)), some (vi (s : Int)), some (vi (w : Int))], [vi (s : Int)])) (S' := MS I J cc ss) 1 rfl ?_
  refine ev_if (c := .lt) (off := 25) rfl (by decide) (fun (g3 : (s : Int) < 0) => False.elim (by omega)) (fun (g3 : ¬ ((s : Int) < 0)) => ?_)
  show Ev X k_X3_cellOf (16, [some (vr 122), some (vi (p : Int)), some (vi (s : Int)), some (vi (w : Int))], []) (MS I J cc ss) _
  refine ev_n (fr' := (22, [some (vr 122), some (vi (p : Int)), some (vi (s : Int)), some (vi (w : Int))], [vi (p : Int), vr 124, vi (s : Int)])) (S' := MS I J cc ss) 4 rfl ?_
  refine ev_iaN (j := p) (z := (d (19 * p + 309))) rfl rfl (by omega) (by omega) ((dI.2.2 _ (by omega)).2.1) ?_
  show Ev X k_X3_cellOf (23, [some (vr 122), some (vi (p : Int)), some (vi (s : Int)), some (vi (w : Int))], [vi (d (19 * p + 309)), vi (s : Int)]) (MS I J cc ss) _
  refine ev_ic (c := .ge) (off := 15) rfl (by decide) (fun (g4 : (d (19 * p + 309)) ≤ (s : Int)) => False.elim (by omega)) (fun (g4 : ¬ ((d (19 * p + 309)) ≤ (s : Int))) => ?_)
  show Ev X k_X3_cellOf (26, [some (vr 122), some (vi (p : Int)), some (vi (s : Int)), some (vi (w : Int))], []) (MS I J cc ss) _
  refine ev_n (fr' := (27, [some (vr 122), some (vi (p : Int)), some (vi (s : Int)), some (vi (w : Int))], [vi (w : Int)])) (S' := MS I J cc ss) 1 rfl ?_
  refine ev_if (c := .lt) (off := 11) rfl (by decide) (fun (g5 : (w : Int) < 0) => False.elim (by omega)) (fun (g5 : ¬ ((w : Int) < 0)) => ?_)
  show Ev X k_X3_cellOf (30, [some (vr 122), some (vi (p : Int)), some (vi (s : Int)), some (vi (w : Int))], []) (MS I J cc ss) _
  refine ev_n (fr' := (35, [some (vr 122), some (vi (p : Int)), some (vi (s : Int)), some (vi (w : Int))], [vi (I 122 0), vi (w : Int)])) (S' := MS I J cc ss) 3 rfl ?_
  refine ev_eqi (dI.1) ?_
  show Ev X k_X3_cellOf (35, [some (vr 122), some (vi (p : Int)), some (vi (s : Int)), some (vi (w : Int))], [vi 3, vi (w : Int)]) (MS I J cc ss) _
  refine ev_ic (c := .lt) (off := 5) rfl (by decide) (fun (g6 : (w : Int) < 3) => ?_) (fun (g6 : ¬ ((w : Int) < 3)) => False.elim (by omega))
  show Ev X k_X3_cellOf (40, [some (vr 122), some (vi (p : Int)), some (vi (s : Int)), some (vi (w : Int))], []) (MS I J cc ss) _
  refine ev_n (fr' := (43, [some (vr 122), some (vi (p : Int)), some (vi (s : Int)), some (vi (w : Int))], [vi 6, vi (p : Int)])) (S' := MS I J cc ss) 2 rfl ?_
  refine ev_mul (z := 6 * (p : Int)) rfl (by omega) (by omega) (by omega) ?_
  show Ev X k_X3_cellOf (44, [some (vr 122), some (vi (p : Int)), some (vi (s : Int)), some (vi (w : Int))], [vi (6 * (p : Int))]) (MS I J cc ss) _
  refine ev_n (fr' := (45, [some (vr 122), some (vi (p : Int)), some (vi (s : Int)), some (vi (w : Int))], [vi (s : Int), vi (6 * (p : Int))])) (S' := MS I J cc ss) 1 rfl ?_
  refine ev_add (z := 6 * (p : Int) + (s : Int)) rfl (by omega) (by omega) (by omega) ?_
  show Ev X k_X3_cellOf (46, [some (vr 122), some (vi (p : Int)), some (vi (s : Int)), some (vi (w : Int))], [vi (6 * (p : Int) + (s : Int))]) (MS I J cc ss) _
  refine ev_n (fr' := (50, [some (vr 122), some (vi (p : Int)), some (vi (s : Int)), some (vi (w : Int))], [vi (I 122 0), vi (6 * (p : Int) + (s : Int))])) (S' := MS I J cc ss) 2 rfl ?_
  refine ev_eqi (dI.1) ?_
  show Ev X k_X3_cellOf (50, [some (vr 122), some (vi (p : Int)), some (vi (s : Int)), some (vi (w : Int))], [vi 3, vi (6 * (p : Int) + (s : Int))]) (MS I J cc ss) _
  refine ev_mul (z := 18 * (p : Int) + 3 * (s : Int)) rfl (by omega) (by omega) (by omega) ?_
  show Ev X k_X3_cellOf (51, [some (vr 122), some (vi (p : Int)), some (vi (s : Int)), some (vi (w : Int))], [vi (18 * (p : Int) + 3 * (s : Int))]) (MS I J cc ss) _
  refine ev_n (fr' := (52, [some (vr 122), some (vi (p : Int)), some (vi (s : Int)), some (vi (w : Int))], [vi (w : Int), vi (18 * (p : Int) + 3 * (s : Int))])) (S' := MS I J cc ss) 1 rfl ?_
  refine ev_add (z := 18 * (p : Int) + 3 * (s : Int) + (w : Int)) rfl (by omega) (by omega) (by omega) ?_
  show Ev X k_X3_cellOf (53, [some (vr 122), some (vi (p : Int)), some (vi (s : Int)), some (vi (w : Int))], [vi (18 * (p : Int) + 3 * (s : Int) + (w : Int))]) (MS I J cc ss) _
  refine ev_r rfl rfl rfl ?_
  first | exact ⟨rfl, rfl⟩ | exact ⟨congrArg (fun z => Sum.inl (some (vi z))) (by first | rfl | (rw [if_pos (by omega)]) | (rw [if_neg (by omega)]) | (simp only [*]; done) | omega), rfl⟩
theorem sp_number2_122 (X : AX) (I J : Nat → Nat → Int) (cc ss : Nat) {d : F1} (p : Nat) (s : Nat) (w : Nat) (dI : IRep I J 122 d) (h8 : d 308 ≤ 8) (h6 : ∀ q : Nat, (q : Int) < d 308 → d (19 * q + 309) ≤ 6) (hp : (p : Int) < d 308) (hs : (s : Int) < d (19 * p + 309)) (hq : w < 3) : Ev X k_X3_number (0, [some (vr 122), some (vi (p : Int)), some (vi (s : Int)), some (vi (w : Int)), none], []) (MS I J cc ss) (fun o T => o = .inl (some (vi (d (19 * p + 3 * s + w + 310)))) ∧ T = MS I J cc ss) := by
  have hw3 := h6 p hp
  refine ev_n (fr' := (4, [some (vr 122), some (vi (p : Int)), some (vi (s : Int)), some (vi (w : Int)), none], [vi (w : Int), vi (s : Int), vi (p : Int), vr 122])) (S' := MS I J cc ss) 4 rfl ?_
  refine ev_cv rfl rfl rfl ⟨Nat.le_of_ble_eq_true rfl, Nat.le_of_ble_eq_true rfl⟩ (sp_cellOf2_122 X _ _ _ _ p s w dI h8 h6 (by omega) (by omega) (by omega)) ?_
  show Ev X k_X3_number (7, [some (vr 122), some (vi (p : Int)), some (vi (s : Int)), some (vi (w : Int)), none], [vi (18 * (p : Int) + 3 * (s : Int) + (w : Int))]) (MS I J cc ss) _
  refine ev_n (fr' := (19, [some (vr 122), some (vi (p : Int)), some (vi (s : Int)), some (vi (w : Int)), some (vi (18 * (p : Int) + 3 * (s : Int) + (w : Int)))], [vi 143, vi 0, vi (18 * (p : Int) + 3 * (s : Int) + (w : Int))])) (S' := MS I J cc ss) 8 rfl ?_
  refine ev_cv rfl rfl rfl ⟨Nat.le_of_ble_eq_true rfl, Nat.le_of_ble_eq_true rfl⟩ (sp_within X _ (18 * (p : Int) + 3 * (s : Int) + (w : Int)) 0 143 ) ?_
  show Ev X k_X3_number (22, [some (vr 122), some (vi (p : Int)), some (vi (s : Int)), some (vi (w : Int)), some (vi (18 * (p : Int) + 3 * (s : Int) + (w : Int)))], [vi (if 0 ≤ 18 * (p : Int) + 3 * (s : Int) + (w : Int) ∧ 18 * (p : Int) + 3 * (s : Int) + (w : Int) ≤ 143 then 1 else 0)]) (MS I J cc ss) _
  refine ev_beq _ rfl (by decide) (fun (g1 : ¬ (0 ≤ 18 * (p : Int) + 3 * (s : Int) + (w : Int) ∧ 18 * (p : Int) + 3 * (s : Int) + (w : Int) ≤ 143)) => False.elim (by omega)) (fun (g1 : 0 ≤ 18 * (p : Int) + 3 * (s : Int) + (w : Int) ∧ 18 * (p : Int) + 3 * (s : Int) + (w : Int) ≤ 143) => ?_)
  show Ev X k_X3_number (25, [some (vr 122), some (vi (p : Int)), some (vi (s : Int)), some (vi (w : Int)), some (vi (18 * (p : Int) + 3 * (s : Int) + (w : Int)))], []) (MS I J cc ss) _
  refine ev_n (fr' := (31, [some (vr 122), some (vi (p : Int)), some (vi (s : Int)), some (vi (w : Int)), some (vi (18 * (p : Int) + 3 * (s : Int) + (w : Int)))], [vi (18 * (p : Int) + 3 * (s : Int) + (w : Int)), vr 125])) (S' := MS I J cc ss) 3 rfl ?_
  refine ev_iaN (j := 18 * p + 3 * s + w) (z := (d (19 * p + 3 * s + w + 310))) rfl rfl (by omega) (by omega) ((dI.2.2 _ hp).2.2 _ _ hs hq) ?_
  show Ev X k_X3_number (32, [some (vr 122), some (vi (p : Int)), some (vi (s : Int)), some (vi (w : Int)), some (vi (18 * (p : Int) + 3 * (s : Int) + (w : Int)))], [vi (d (19 * p + 3 * s + w + 310))]) (MS I J cc ss) _
  refine ev_n (fr' := (36, [some (vr 122), some (vi (p : Int)), some (vi (s : Int)), some (vi (w : Int)), some (vi (18 * (p : Int) + 3 * (s : Int) + (w : Int)))], [vi (d (19 * p + 3 * s + w + 310))])) (S' := MS I J cc ss) 1 rfl ?_
  refine ev_r rfl rfl rfl ?_
  first | exact ⟨rfl, rfl⟩ | exact ⟨congrArg (fun z => Sum.inl (some (vi z))) (by first | rfl | (rw [if_pos (by omega)]) | (rw [if_neg (by omega)]) | (simp only [*]; done) | omega), rfl⟩
theorem sp_putNumber_122 (X : AX) (I J : Nat → Nat → Int) (cc ss : Nat) {d : F1} (p s w : Nat) (v : Int) (dI : IRep I J 122 d) (h8 : d 308 ≤ 8) (h6 : ∀ q : Nat, (q : Int) < d 308 → d (19 * q + 309) ≤ 6) (hp : (p : Int) < d 308) (hs : (s : Int) < d (19 * p + 309)) (hq : w < 3) : Ev X k_X3_putNumber (0, [some (vr 122), some (vi (p : Int)), some (vi (s : Int)), some (vi (w : Int)), some (vi v), none], []) (MS I J cc ss) (fun o T => o = .inl none ∧ T = MS (up2 I 125 (18 * p + 3 * s + w) v) J cc ss) := by
  have hw3 := h6 p hp
  refine ev_n (fr' := (4, [some (vr 122), some (vi (p : Int)), some (vi (s : Int)), some (vi (w : Int)), some (vi v), none], [vi (w : Int), vi (s : Int), vi (p : Int), vr 122])) (S' := MS I J cc ss) 4 rfl ?_
  refine ev_cv rfl rfl rfl ⟨Nat.le_of_ble_eq_true rfl, Nat.le_of_ble_eq_true rfl⟩ (sp_cellOf2_122 X _ _ _ _ p s w dI h8 h6 (by omega) (by omega) (by omega)) ?_
  show Ev X k_X3_putNumber (7, [some (vr 122), some (vi (p : Int)), some (vi (s : Int)), some (vi (w : Int)), some (vi v), none], [vi (18 * (p : Int) + 3 * (s : Int) + (w : Int))]) (MS I J cc ss) _
  refine ev_n (fr' := (19, [some (vr 122), some (vi (p : Int)), some (vi (s : Int)), some (vi (w : Int)), some (vi v), some (vi (18 * (p : Int) + 3 * (s : Int) + (w : Int)))], [vi 143, vi 0, vi (18 * (p : Int) + 3 * (s : Int) + (w : Int))])) (S' := MS I J cc ss) 8 rfl ?_
  refine ev_cv rfl rfl rfl ⟨Nat.le_of_ble_eq_true rfl, Nat.le_of_ble_eq_true rfl⟩ (sp_within X _ (18 * (p : Int) + 3 * (s : Int) + (w : Int)) 0 143 ) ?_
  show Ev X k_X3_putNumber (22, [some (vr 122), some (vi (p : Int)), some (vi (s : Int)), some (vi (w : Int)), some (vi v), some (vi (18 * (p : Int) + 3 * (s : Int) + (w : Int)))], [vi (if 0 ≤ 18 * (p : Int) + 3 * (s : Int) + (w : Int) ∧ 18 * (p : Int) + 3 * (s : Int) + (w : Int) ≤ 143 then 1 else 0)]) (MS I J cc ss) _
  refine ev_beq _ rfl (by decide) (fun (g1 : ¬ (0 ≤ 18 * (p : Int) + 3 * (s : Int) + (w : Int) ∧ 18 * (p : Int) + 3 * (s : Int) + (w : Int) ≤ 143)) => False.elim (by omega)) (fun (g1 : 0 ≤ 18 * (p : Int) + 3 * (s : Int) + (w : Int) ∧ 18 * (p : Int) + 3 * (s : Int) + (w : Int) ≤ 143) => ?_)
  show Ev X k_X3_putNumber (25, [some (vr 122), some (vi (p : Int)), some (vi (s : Int)), some (vi (w : Int)), some (vi v), some (vi (18 * (p : Int) + 3 * (s : Int) + (w : Int)))], []) (MS I J cc ss) _
  refine ev_n (fr' := (33, [some (vr 122), some (vi (p : Int)), some (vi (s : Int)), some (vi (w : Int)), some (vi v), some (vi (18 * (p : Int) + 3 * (s : Int) + (w : Int)))], [vi v, vi (18 * (p : Int) + 3 * (s : Int) + (w : Int)), vr 125])) (S' := MS I J cc ss) 4 rfl ?_
  refine ev_iasN (j := 18 * p + 3 * s + w) rfl rfl (by omega) (by omega) ?_
  show Ev X k_X3_putNumber (34, [some (vr 122), some (vi (p : Int)), some (vi (s : Int)), some (vi (w : Int)), some (vi v), some (vi (18 * (p : Int) + 3 * (s : Int) + (w : Int)))], []) (MS (up2 I 125 (18 * p + 3 * s + w) v) J cc ss) _
  refine ev_r rfl rfl rfl ?_
  exact ⟨rfl, rfl⟩
