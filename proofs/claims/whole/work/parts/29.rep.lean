/-! THE ABSTRACT SET, what the class holds of it; the class's readers (printed by gen/g29.py) -/
/-- the abstract set is the reference's row of 477 numbers: 0 sizes, 1+2k pixels, 2+2k extra, 11 parts, 12+37p shapes of p, 13+37p+6s+w, 308 icons, 309+19i uses of i, 310+19i+3u+w, 461+p names, 469+i names -/
abbrev F1 : Type := Nat → Int
abbrev F2 : Type := Nat → Nat → Int
/-- the class's set: its sizes, parts and icons -/
def SRep (I : F2) (b : Nat) (g : F1) : Prop := I (b + 1) 2 = g 0 ∧ ∀ k : Nat, (k : Int) < g 0 → I (b + 2) k = g (2 * k + 1) ∧ I (b + 3) k = g (2 * k + 2)
def PRep (I J : F2) (R : Nat) (g : F1) : Prop := I R 0 = 6 ∧ I R 4 = g 11 ∧ ∀ p : Nat, (p : Int) < g 11 → J (R + 1) p = g (p + 461) ∧ I (R + 2) p = g (37 * p + 12) ∧ ∀ s w : Nat, (s : Int) < g (37 * p + 12) → w < 6 → I (R + 3) (36 * p + 6 * s + w) = g (37 * p + 6 * s + w + 13)
def IRep (I J : F2) (R : Nat) (g : F1) : Prop := I R 0 = 3 ∧ I R 4 = g 308 ∧ ∀ i : Nat, (i : Int) < g 308 → J (R + 1) i = g (i + 469) ∧ I (R + 2) i = g (19 * i + 309) ∧ ∀ u w : Nat, (u : Int) < g (19 * i + 309) → w < 3 → I (R + 3) (18 * i + 3 * u + w) = g (19 * i + 3 * u + w + 310)
/-- what holds of every set -/
def WS (g : F1) : Prop := 0 ≤ g 0 ∧ g 0 ≤ 5 ∧ (∀ k : Nat, (k : Int) < g 0 → 4 ≤ g (2 * k + 1) ∧ g (2 * k + 1) ≤ 32 ∧ -2 ≤ g (2 * k + 2) ∧ g (2 * k + 2) ≤ 2) ∧ ∀ k : Nat, (k : Int) + 1 < g 0 → g (2 * k + 1) < g (2 * k + 3)
def WP (g : F1) : Prop := 0 ≤ g 11 ∧ g 11 ≤ 8 ∧ ∀ p : Nat, (p : Int) < g 11 → 1 ≤ g (37 * p + 12) ∧ g (37 * p + 12) ≤ 6 ∧ ∀ s : Nat, (s : Int) < g (37 * p + 12) → 0 ≤ g (37 * p + 6 * s + 13) ∧ g (37 * p + 6 * s + 13) ≤ 2 ∧ ∀ w : Nat, 1 ≤ w → w ≤ 5 → lowF (g (37 * p + 6 * s + 13)) w ≤ g (37 * p + 6 * s + w + 13) ∧ g (37 * p + 6 * s + w + 13) ≤ highF (g (37 * p + 6 * s + 13)) w
def WI (g : F1) : Prop := 0 ≤ g 308 ∧ g 308 ≤ 8 ∧ ∀ i : Nat, (i : Int) < g 308 → 0 ≤ g (19 * i + 309) ∧ g (19 * i + 309) ≤ 6 ∧ ∀ u : Nat, (u : Int) < g (19 * i + 309) → 0 ≤ g (19 * i + 3 * u + 310) ∧ g (19 * i + 3 * u + 310) < g 11 ∧ -48 ≤ g (19 * i + 3 * u + 311) ∧ g (19 * i + 3 * u + 311) ≤ 48 ∧ -48 ≤ g (19 * i + 3 * u + 312) ∧ g (19 * i + 3 * u + 312) ≤ 48
def WF (g : F1) : Prop := WS g ∧ WP g ∧ WI g
/-- the first place of a value, or -1 -/
def fnd (f : Nat → Int) (x : Int) : Nat → Nat → Int
  | 0, _ => -1
  | n + 1, r => if f r = x then (r : Int) else fnd f x n (r + 1)
def sumF (f : Nat → Int) : Nat → Int
  | 0 => 0
  | n + 1 => sumF f n + f n
theorem lowF_rng (kd w : Int) : 0 ≤ lowF kd w ∧ lowF kd w ≤ 1 := by simp only [lowF]; omega
theorem highF_rng (kd w : Int) : 0 ≤ highF kd w ∧ highF kd w ≤ 48 := by simp only [highF]; omega
theorem sp_sizeCount_2 (X : AX) (I J : Nat → Nat → Int) (cc ss : Nat) {g : F1} (hS : SRep I 1 g) : Ev X k_X5_sizeCount (0, [some (vr 2)], []) (MS I J cc ss) (fun o T => o = .inl (some (vi (g 0))) ∧ T = MS I J cc ss) := by
  refine ev_n (fr' := (4, [some (vr 2)], [vi (I 2 2)])) (S' := MS I J cc ss) 2 rfl ?_
  refine ev_eqi (hS.1) ?_
  show Ev X k_X5_sizeCount (4, [some (vr 2)], [vi (g 0)]) (MS I J cc ss) _
  refine ev_r rfl rfl rfl ?_
  first | exact ⟨rfl, rfl⟩ | exact ⟨congrArg (fun z => Sum.inl (some (vi z))) (by first | rfl | (rw [if_pos (by omega)]) | (rw [if_neg (by omega)]) | (simp only [*]; done) | omega), rfl⟩
theorem sp_has_2 (X : AX) (I J : Nat → Nat → Int) (cc ss : Nat) {g : F1} (z : Int) (hS : SRep I 1 g) : Ev X k_X5_has (0, [some (vr 2), some (vi z)], []) (MS I J cc ss) (fun o T => o = .inl (some (vi (if 0 ≤ z ∧ z < g 0 then 1 else 0))) ∧ T = MS I J cc ss) := by
  refine ev_n (fr' := (1, [some (vr 2), some (vi z)], [vi z])) (S' := MS I J cc ss) 1 rfl ?_
  refine ev_if (c := .lt) (off := 15) rfl (by decide) (fun (g1 : z < 0) => ?_) (fun (g1 : ¬ (z < 0)) => ?_)
  · show Ev X k_X5_has (16, [some (vr 2), some (vi z)], []) (MS I J cc ss) _
    refine ev_n (fr' := (17, [some (vr 2), some (vi z)], [vi 0])) (S' := MS I J cc ss) 1 rfl ?_
    refine ev_r rfl rfl rfl ?_
    first | exact ⟨rfl, rfl⟩ | exact ⟨congrArg (fun z => Sum.inl (some (vi z))) (by first | rfl | (rw [if_pos (by omega)]) | (rw [if_neg (by omega)]) | (simp only [*]; done) | omega), rfl⟩
  · show Ev X k_X5_has (4, [some (vr 2), some (vi z)], []) (MS I J cc ss) _
    refine ev_n (fr' := (9, [some (vr 2), some (vi z)], [vi (I 2 2), vi z])) (S' := MS I J cc ss) 3 rfl ?_
    refine ev_eqi (hS.1) ?_
    show Ev X k_X5_has (9, [some (vr 2), some (vi z)], [vi (g 0), vi z]) (MS I J cc ss) _
    refine ev_ic (c := .ge) (off := 7) rfl (by decide) (fun (g2 : (g 0) ≤ z) => ?_) (fun (g2 : ¬ ((g 0) ≤ z)) => ?_)
    · show Ev X k_X5_has (16, [some (vr 2), some (vi z)], []) (MS I J cc ss) _
      refine ev_n (fr' := (17, [some (vr 2), some (vi z)], [vi 0])) (S' := MS I J cc ss) 1 rfl ?_
      refine ev_r rfl rfl rfl ?_
      first | exact ⟨rfl, rfl⟩ | exact ⟨congrArg (fun z => Sum.inl (some (vi z))) (by first | rfl | (rw [if_pos (by omega)]) | (rw [if_neg (by omega)]) | (simp only [*]; done) | omega), rfl⟩
    · show Ev X k_X5_has (12, [some (vr 2), some (vi z)], []) (MS I J cc ss) _
      refine ev_n (fr' := (17, [some (vr 2), some (vi z)], [vi 1])) (S' := MS I J cc ss) 2 rfl ?_
      refine ev_r rfl rfl rfl ?_
      first | exact ⟨rfl, rfl⟩ | exact ⟨congrArg (fun z => Sum.inl (some (vi z))) (by first | rfl | (rw [if_pos (by omega)]) | (rw [if_neg (by omega)]) | (simp only [*]; done) | omega), rfl⟩
theorem sp_sIsFull_2 (X : AX) (I J : Nat → Nat → Int) (cc ss : Nat) {g : F1} (hS : SRep I 1 g) : Ev X k_X5_isFull (0, [some (vr 2)], []) (MS I J cc ss) (fun o T => o = .inl (some (vi (if 5 ≤ g 0 then 1 else 0))) ∧ T = MS I J cc ss) := by
  refine ev_n (fr' := (4, [some (vr 2)], [vi (I 2 2)])) (S' := MS I J cc ss) 2 rfl ?_
  refine ev_eqi (hS.1) ?_
  show Ev X k_X5_isFull (4, [some (vr 2)], [vi (g 0)]) (MS I J cc ss) _
  refine ev_n (fr' := (5, [some (vr 2)], [vi 5, vi (g 0)])) (S' := MS I J cc ss) 1 rfl ?_
  refine ev_ic (c := .lt) (off := 7) rfl (by decide) (fun (g1 : (g 0) < 5) => ?_) (fun (g1 : ¬ ((g 0) < 5)) => ?_)
  · show Ev X k_X5_isFull (12, [some (vr 2)], []) (MS I J cc ss) _
    refine ev_n (fr' := (13, [some (vr 2)], [vi 0])) (S' := MS I J cc ss) 1 rfl ?_
    refine ev_r rfl rfl rfl ?_
    first | exact ⟨rfl, rfl⟩ | exact ⟨congrArg (fun z => Sum.inl (some (vi z))) (by first | rfl | (rw [if_pos (by omega)]) | (rw [if_neg (by omega)]) | (simp only [*]; done) | omega), rfl⟩
  · show Ev X k_X5_isFull (8, [some (vr 2)], []) (MS I J cc ss) _
    refine ev_n (fr' := (13, [some (vr 2)], [vi 1])) (S' := MS I J cc ss) 2 rfl ?_
    refine ev_r rfl rfl rfl ?_
    first | exact ⟨rfl, rfl⟩ | exact ⟨congrArg (fun z => Sum.inl (some (vi z))) (by first | rfl | (rw [if_pos (by omega)]) | (rw [if_neg (by omega)]) | (simp only [*]; done) | omega), rfl⟩
theorem sp_pixelsOf_2 (X : AX) (I J : Nat → Nat → Int) (cc ss : Nat) {g : F1} (k : Nat) (hS : SRep I 1 g) (hws : WS g) (hk : (k : Int) < g 0) : Ev X k_X5_pixelsOf (0, [some (vr 2), some (vi (k : Int))], []) (MS I J cc ss) (fun o T => o = .inl (some (vi (g (2 * k + 1)))) ∧ T = MS I J cc ss) := by
  have hw2 := hws.2.1
  refine ev_n (fr' := (2, [some (vr 2), some (vi (k : Int))], [vi (k : Int), vr 2])) (S' := MS I J cc ss) 2 rfl ?_
  refine ev_cv rfl rfl rfl ⟨Nat.le_of_ble_eq_true rfl, Nat.le_of_ble_eq_true rfl⟩ (sp_has_2 X _ _ _ _ (k : Int) hS) ?_
  show Ev X k_X5_pixelsOf (5, [some (vr 2), some (vi (k : Int))], [vi (if 0 ≤ (k : Int) ∧ (k : Int) < g 0 then 1 else 0)]) (MS I J cc ss) _
  refine ev_beq _ rfl (by decide) (fun (g1 : ¬ (0 ≤ (k : Int) ∧ (k : Int) < g 0)) => False.elim (by omega)) (fun (g1 : 0 ≤ (k : Int) ∧ (k : Int) < g 0) => ?_)
  show Ev X k_X5_pixelsOf (8, [some (vr 2), some (vi (k : Int))], []) (MS I J cc ss) _
  refine ev_n (fr' := (13, [some (vr 2), some (vi (k : Int))], [vi (k : Int), vr 3])) (S' := MS I J cc ss) 3 rfl ?_
  refine ev_iaN (j := k) (z := (g (2 * k + 1))) rfl rfl (by omega) (by omega) ((hS.2 _ (by omega)).1) ?_
  show Ev X k_X5_pixelsOf (14, [some (vr 2), some (vi (k : Int))], [vi (g (2 * k + 1))]) (MS I J cc ss) _
  refine ev_n (fr' := (18, [some (vr 2), some (vi (k : Int))], [vi (g (2 * k + 1))])) (S' := MS I J cc ss) 1 rfl ?_
  refine ev_r rfl rfl rfl ?_
  first | exact ⟨rfl, rfl⟩ | exact ⟨congrArg (fun z => Sum.inl (some (vi z))) (by first | rfl | (rw [if_pos (by omega)]) | (rw [if_neg (by omega)]) | (simp only [*]; done) | omega), rfl⟩
theorem sp_extraOf_2 (X : AX) (I J : Nat → Nat → Int) (cc ss : Nat) {g : F1} (k : Nat) (hS : SRep I 1 g) (hws : WS g) (hk : (k : Int) < g 0) : Ev X k_X5_extraOf (0, [some (vr 2), some (vi (k : Int))], []) (MS I J cc ss) (fun o T => o = .inl (some (vi (g (2 * k + 2)))) ∧ T = MS I J cc ss) := by
  have hw2 := hws.2.1
  refine ev_n (fr' := (2, [some (vr 2), some (vi (k : Int))], [vi (k : Int), vr 2])) (S' := MS I J cc ss) 2 rfl ?_
  refine ev_cv rfl rfl rfl ⟨Nat.le_of_ble_eq_true rfl, Nat.le_of_ble_eq_true rfl⟩ (sp_has_2 X _ _ _ _ (k : Int) hS) ?_
  show Ev X k_X5_extraOf (5, [some (vr 2), some (vi (k : Int))], [vi (if 0 ≤ (k : Int) ∧ (k : Int) < g 0 then 1 else 0)]) (MS I J cc ss) _
  refine ev_beq _ rfl (by decide) (fun (g1 : ¬ (0 ≤ (k : Int) ∧ (k : Int) < g 0)) => False.elim (by omega)) (fun (g1 : 0 ≤ (k : Int) ∧ (k : Int) < g 0) => ?_)
  show Ev X k_X5_extraOf (8, [some (vr 2), some (vi (k : Int))], []) (MS I J cc ss) _
  refine ev_n (fr' := (13, [some (vr 2), some (vi (k : Int))], [vi (k : Int), vr 4])) (S' := MS I J cc ss) 3 rfl ?_
  refine ev_iaN (j := k) (z := (g (2 * k + 2))) rfl rfl (by omega) (by omega) ((hS.2 _ (by omega)).2) ?_
  show Ev X k_X5_extraOf (14, [some (vr 2), some (vi (k : Int))], [vi (g (2 * k + 2))]) (MS I J cc ss) _
  refine ev_n (fr' := (18, [some (vr 2), some (vi (k : Int))], [vi (g (2 * k + 2))])) (S' := MS I J cc ss) 1 rfl ?_
  refine ev_r rfl rfl rfl ?_
  first | exact ⟨rfl, rfl⟩ | exact ⟨congrArg (fun z => Sum.inl (some (vi z))) (by first | rfl | (rw [if_pos (by omega)]) | (rw [if_neg (by omega)]) | (simp only [*]; done) | omega), rfl⟩
theorem sp_sizeCount_115 (X : AX) (I J : Nat → Nat → Int) (cc ss : Nat) {d : F1} (dS : SRep I 114 d) : Ev X k_X5_sizeCount (0, [some (vr 115)], []) (MS I J cc ss) (fun o T => o = .inl (some (vi (d 0))) ∧ T = MS I J cc ss) := by
  refine ev_n (fr' := (4, [some (vr 115)], [vi (I 115 2)])) (S' := MS I J cc ss) 2 rfl ?_
  refine ev_eqi (dS.1) ?_
  show Ev X k_X5_sizeCount (4, [some (vr 115)], [vi (d 0)]) (MS I J cc ss) _
  refine ev_r rfl rfl rfl ?_
  first | exact ⟨rfl, rfl⟩ | exact ⟨congrArg (fun z => Sum.inl (some (vi z))) (by first | rfl | (rw [if_pos (by omega)]) | (rw [if_neg (by omega)]) | (simp only [*]; done) | omega), rfl⟩
theorem sp_has_115 (X : AX) (I J : Nat → Nat → Int) (cc ss : Nat) {d : F1} (z : Int) (dS : SRep I 114 d) : Ev X k_X5_has (0, [some (vr 115), some (vi z)], []) (MS I J cc ss) (fun o T => o = .inl (some (vi (if 0 ≤ z ∧ z < d 0 then 1 else 0))) ∧ T = MS I J cc ss) := by
  refine ev_n (fr' := (1, [some (vr 115), some (vi z)], [vi z])) (S' := MS I J cc ss) 1 rfl ?_
  refine ev_if (c := .lt) (off := 15) rfl (by decide) (fun (g1 : z < 0) => ?_) (fun (g1 : ¬ (z < 0)) => ?_)
  · show Ev X k_X5_has (16, [some (vr 115), some (vi z)], []) (MS I J cc ss) _
    refine ev_n (fr' := (17, [some (vr 115), some (vi z)], [vi 0])) (S' := MS I J cc ss) 1 rfl ?_
    refine ev_r rfl rfl rfl ?_
    first | exact ⟨rfl, rfl⟩ | exact ⟨congrArg (fun z => Sum.inl (some (vi z))) (by first | rfl | (rw [if_pos (by omega)]) | (rw [if_neg (by omega)]) | (simp only [*]; done) | omega), rfl⟩
  · show Ev X k_X5_has (4, [some (vr 115), some (vi z)], []) (MS I J cc ss) _
    refine ev_n (fr' := (9, [some (vr 115), some (vi z)], [vi (I 115 2), vi z])) (S' := MS I J cc ss) 3 rfl ?_
    refine ev_eqi (dS.1) ?_
    show Ev X k_X5_has (9, [some (vr 115), some (vi z)], [vi (d 0), vi z]) (MS I J cc ss) _
    refine ev_ic (c := .ge) (off := 7) rfl (by decide) (fun (g2 : (d 0) ≤ z) => ?_) (fun (g2 : ¬ ((d 0) ≤ z)) => ?_)
    · show Ev X k_X5_has (16, [some (vr 115), some (vi z)], []) (MS I J cc ss) _
      refine ev_n (fr' := (17, [some (vr 115), some (vi z)], [vi 0])) (S' := MS I J cc ss) 1 rfl ?_
      refine ev_r rfl rfl rfl ?_
      first | exact ⟨rfl, rfl⟩ | exact ⟨congrArg (fun z => Sum.inl (some (vi z))) (by first | rfl | (rw [if_pos (by omega)]) | (rw [if_neg (by omega)]) | (simp only [*]; done) | omega), rfl⟩
    · show Ev X k_X5_has (12, [some (vr 115), some (vi z)], []) (MS I J cc ss) _
      refine ev_n (fr' := (17, [some (vr 115), some (vi z)], [vi 1])) (S' := MS I J cc ss) 2 rfl ?_
      refine ev_r rfl rfl rfl ?_
      first | exact ⟨rfl, rfl⟩ | exact ⟨congrArg (fun z => Sum.inl (some (vi z))) (by first | rfl | (rw [if_pos (by omega)]) | (rw [if_neg (by omega)]) | (simp only [*]; done) | omega), rfl⟩
theorem sp_sIsFull_115 (X : AX) (I J : Nat → Nat → Int) (cc ss : Nat) {d : F1} (dS : SRep I 114 d) : Ev X k_X5_isFull (0, [some (vr 115)], []) (MS I J cc ss) (fun o T => o = .inl (some (vi (if 5 ≤ d 0 then 1 else 0))) ∧ T = MS I J cc ss) := by
  refine ev_n (fr' := (4, [some (vr 115)], [vi (I 115 2)])) (S' := MS I J cc ss) 2 rfl ?_
  refine ev_eqi (dS.1) ?_
  show Ev X k_X5_isFull (4, [some (vr 115)], [vi (d 0)]) (MS I J cc ss) _
  refine ev_n (fr' := (5, [some (vr 115)], [vi 5, vi (d 0)])) (S' := MS I J cc ss) 1 rfl ?_
  refine ev_ic (c := .lt) (off := 7) rfl (by decide) (fun (g1 : (d 0) < 5) => ?_) (fun (g1 : ¬ ((d 0) < 5)) => ?_)
  · show Ev X k_X5_isFull (12, [some (vr 115)], []) (MS I J cc ss) _
    refine ev_n (fr' := (13, [some (vr 115)], [vi 0])) (S' := MS I J cc ss) 1 rfl ?_
    refine ev_r rfl rfl rfl ?_
    first | exact ⟨rfl, rfl⟩ | exact ⟨congrArg (fun z => Sum.inl (some (vi z))) (by first | rfl | (rw [if_pos (by omega)]) | (rw [if_neg (by omega)]) | (simp only [*]; done) | omega), rfl⟩
  · show Ev X k_X5_isFull (8, [some (vr 115)], []) (MS I J cc ss) _
    refine ev_n (fr' := (13, [some (vr 115)], [vi 1])) (S' := MS I J cc ss) 2 rfl ?_
    refine ev_r rfl rfl rfl ?_
    first | exact ⟨rfl, rfl⟩ | exact ⟨congrArg (fun z => Sum.inl (some (vi z))) (by first | rfl | (rw [if_pos (by omega)]) | (rw [if_neg (by omega)]) | (simp only [*]; done) | omega), rfl⟩
theorem sp_pixelsOf_115 (X : AX) (I J : Nat → Nat → Int) (cc ss : Nat) {d : F1} (k : Nat) (dS : SRep I 114 d) (hws : WS d) (hk : (k : Int) < d 0) : Ev X k_X5_pixelsOf (0, [some (vr 115), some (vi (k : Int))], []) (MS I J cc ss) (fun o T => o = .inl (some (vi (d (2 * k + 1)))) ∧ T = MS I J cc ss) := by
  have hw2 := hws.2.1
  refine ev_n (fr' := (2, [some (vr 115), some (vi (k : Int))], [vi (k : Int), vr 115])) (S' := MS I J cc ss) 2 rfl ?_
  refine ev_cv rfl rfl rfl ⟨Nat.le_of_ble_eq_true rfl, Nat.le_of_ble_eq_true rfl⟩ (sp_has_115 X _ _ _ _ (k : Int) dS) ?_
  show Ev X k_X5_pixelsOf (5, [some (vr 115), some (vi (k : Int))], [vi (if 0 ≤ (k : Int) ∧ (k : Int) < d 0 then 1 else 0)]) (MS I J cc ss) _
  refine ev_beq _ rfl (by decide) (fun (g1 : ¬ (0 ≤ (k : Int) ∧ (k : Int) < d 0)) => False.elim (by omega)) (fun (g1 : 0 ≤ (k : Int) ∧ (k : Int) < d 0) => ?_)
  show Ev X k_X5_pixelsOf (8, [some (vr 115), some (vi (k : Int))], []) (MS I J cc ss) _
  refine ev_n (fr' := (13, [some (vr 115), some (vi (k : Int))], [vi (k : Int), vr 116])) (S' := MS I J cc ss) 3 rfl ?_
  refine ev_iaN (j := k) (z := (d (2 * k + 1))) rfl rfl (by omega) (by omega) ((dS.2 _ (by omega)).1) ?_
  show Ev X k_X5_pixelsOf (14, [some (vr 115), some (vi (k : Int))], [vi (d (2 * k + 1))]) (MS I J cc ss) _
  refine ev_n (fr' := (18, [some (vr 115), some (vi (k : Int))], [vi (d (2 * k + 1))])) (S' := MS I J cc ss) 1 rfl ?_
  refine ev_r rfl rfl rfl ?_
  first | exact ⟨rfl, rfl⟩ | exact ⟨congrArg (fun z => Sum.inl (some (vi z))) (by first | rfl | (rw [if_pos (by omega)]) | (rw [if_neg (by omega)]) | (simp only [*]; done) | omega), rfl⟩
theorem sp_extraOf_115 (X : AX) (I J : Nat → Nat → Int) (cc ss : Nat) {d : F1} (k : Nat) (dS : SRep I 114 d) (hws : WS d) (hk : (k : Int) < d 0) : Ev X k_X5_extraOf (0, [some (vr 115), some (vi (k : Int))], []) (MS I J cc ss) (fun o T => o = .inl (some (vi (d (2 * k + 2)))) ∧ T = MS I J cc ss) := by
  have hw2 := hws.2.1
  refine ev_n (fr' := (2, [some (vr 115), some (vi (k : Int))], [vi (k : Int), vr 115])) (S' := MS I J cc ss) 2 rfl ?_
  refine ev_cv rfl rfl rfl ⟨Nat.le_of_ble_eq_true rfl, Nat.le_of_ble_eq_true rfl⟩ (sp_has_115 X _ _ _ _ (k : Int) dS) ?_
  show Ev X k_X5_extraOf (5, [some (vr 115), some (vi (k : Int))], [vi (if 0 ≤ (k : Int) ∧ (k : Int) < d 0 then 1 else 0)]) (MS I J cc ss) _
  refine ev_beq _ rfl (by decide) (fun (g1 : ¬ (0 ≤ (k : Int) ∧ (k : Int) < d 0)) => False.elim (by omega)) (fun (g1 : 0 ≤ (k : Int) ∧ (k : Int) < d 0) => ?_)
  show Ev X k_X5_extraOf (8, [some (vr 115), some (vi (k : Int))], []) (MS I J cc ss) _
  refine ev_n (fr' := (13, [some (vr 115), some (vi (k : Int))], [vi (k : Int), vr 117])) (S' := MS I J cc ss) 3 rfl ?_
  refine ev_iaN (j := k) (z := (d (2 * k + 2))) rfl rfl (by omega) (by omega) ((dS.2 _ (by omega)).2) ?_
  show Ev X k_X5_extraOf (14, [some (vr 115), some (vi (k : Int))], [vi (d (2 * k + 2))]) (MS I J cc ss) _
  refine ev_n (fr' := (18, [some (vr 115), some (vi (k : Int))], [vi (d (2 * k + 2))])) (S' := MS I J cc ss) 1 rfl ?_
  refine ev_r rfl rfl rfl ?_
  first | exact ⟨rfl, rfl⟩ | exact ⟨congrArg (fun z => Sum.inl (some (vi z))) (by first | rfl | (rw [if_pos (by omega)]) | (rw [if_neg (by omega)]) | (simp only [*]; done) | omega), rfl⟩
theorem sp_rowCount_5 (X : AX) (I J : Nat → Nat → Int) (cc ss : Nat) {g : F1} (hP : PRep I J 5 g) : Ev X k_X3_rowCount (0, [some (vr 5)], []) (MS I J cc ss) (fun o T => o = .inl (some (vi (g 11))) ∧ T = MS I J cc ss) := by
  refine ev_n (fr' := (4, [some (vr 5)], [vi (I 5 4)])) (S' := MS I J cc ss) 2 rfl ?_
  refine ev_eqi (hP.2.1) ?_
  show Ev X k_X3_rowCount (4, [some (vr 5)], [vi (g 11)]) (MS I J cc ss) _
  refine ev_r rfl rfl rfl ?_
  first | exact ⟨rfl, rfl⟩ | exact ⟨congrArg (fun z => Sum.inl (some (vi z))) (by first | rfl | (rw [if_pos (by omega)]) | (rw [if_neg (by omega)]) | (simp only [*]; done) | omega), rfl⟩
theorem sp_hasRow_5 (X : AX) (I J : Nat → Nat → Int) (cc ss : Nat) {g : F1} (z : Int) (hP : PRep I J 5 g) : Ev X k_X3_hasRow (0, [some (vr 5), some (vi z)], []) (MS I J cc ss) (fun o T => o = .inl (some (vi (if 0 ≤ z ∧ z < g 11 then 1 else 0))) ∧ T = MS I J cc ss) := by
  refine ev_n (fr' := (1, [some (vr 5), some (vi z)], [vi z])) (S' := MS I J cc ss) 1 rfl ?_
  refine ev_if (c := .lt) (off := 15) rfl (by decide) (fun (g1 : z < 0) => ?_) (fun (g1 : ¬ (z < 0)) => ?_)
  · show Ev X k_X3_hasRow (16, [some (vr 5), some (vi z)], []) (MS I J cc ss) _
    refine ev_n (fr' := (17, [some (vr 5), some (vi z)], [vi 0])) (S' := MS I J cc ss) 1 rfl ?_
    refine ev_r rfl rfl rfl ?_
    first | exact ⟨rfl, rfl⟩ | exact ⟨congrArg (fun z => Sum.inl (some (vi z))) (by first | rfl | (rw [if_pos (by omega)]) | (rw [if_neg (by omega)]) | (simp only [*]; done) | omega), rfl⟩
  · show Ev X k_X3_hasRow (4, [some (vr 5), some (vi z)], []) (MS I J cc ss) _
    refine ev_n (fr' := (9, [some (vr 5), some (vi z)], [vi (I 5 4), vi z])) (S' := MS I J cc ss) 3 rfl ?_
    refine ev_eqi (hP.2.1) ?_
    show Ev X k_X3_hasRow (9, [some (vr 5), some (vi z)], [vi (g 11), vi z]) (MS I J cc ss) _
    refine ev_ic (c := .ge) (off := 7) rfl (by decide) (fun (g2 : (g 11) ≤ z) => ?_) (fun (g2 : ¬ ((g 11) ≤ z)) => ?_)
    · show Ev X k_X3_hasRow (16, [some (vr 5), some (vi z)], []) (MS I J cc ss) _
      refine ev_n (fr' := (17, [some (vr 5), some (vi z)], [vi 0])) (S' := MS I J cc ss) 1 rfl ?_
      refine ev_r rfl rfl rfl ?_
      first | exact ⟨rfl, rfl⟩ | exact ⟨congrArg (fun z => Sum.inl (some (vi z))) (by first | rfl | (rw [if_pos (by omega)]) | (rw [if_neg (by omega)]) | (simp only [*]; done) | omega), rfl⟩
    · show Ev X k_X3_hasRow (12, [some (vr 5), some (vi z)], []) (MS I J cc ss) _
      refine ev_n (fr' := (17, [some (vr 5), some (vi z)], [vi 1])) (S' := MS I J cc ss) 2 rfl ?_
      refine ev_r rfl rfl rfl ?_
      first | exact ⟨rfl, rfl⟩ | exact ⟨congrArg (fun z => Sum.inl (some (vi z))) (by first | rfl | (rw [if_pos (by omega)]) | (rw [if_neg (by omega)]) | (simp only [*]; done) | omega), rfl⟩
theorem sp_rIsFull_5 (X : AX) (I J : Nat → Nat → Int) (cc ss : Nat) {g : F1} (hP : PRep I J 5 g) : Ev X k_X3_isFull (0, [some (vr 5)], []) (MS I J cc ss) (fun o T => o = .inl (some (vi (if 8 ≤ g 11 then 1 else 0))) ∧ T = MS I J cc ss) := by
  refine ev_n (fr' := (4, [some (vr 5)], [vi (I 5 4)])) (S' := MS I J cc ss) 2 rfl ?_
  refine ev_eqi (hP.2.1) ?_
  show Ev X k_X3_isFull (4, [some (vr 5)], [vi (g 11)]) (MS I J cc ss) _
  refine ev_n (fr' := (6, [some (vr 5)], [vi 8, vi (g 11)])) (S' := MS I J cc ss) 1 rfl ?_
  refine ev_ic (c := .lt) (off := 7) rfl (by decide) (fun (g1 : (g 11) < 8) => ?_) (fun (g1 : ¬ ((g 11) < 8)) => ?_)
  · show Ev X k_X3_isFull (13, [some (vr 5)], []) (MS I J cc ss) _
    refine ev_n (fr' := (14, [some (vr 5)], [vi 0])) (S' := MS I J cc ss) 1 rfl ?_
    refine ev_r rfl rfl rfl ?_
    first | exact ⟨rfl, rfl⟩ | exact ⟨congrArg (fun z => Sum.inl (some (vi z))) (by first | rfl | (rw [if_pos (by omega)]) | (rw [if_neg (by omega)]) | (simp only [*]; done) | omega), rfl⟩
  · show Ev X k_X3_isFull (9, [some (vr 5)], []) (MS I J cc ss) _
    refine ev_n (fr' := (14, [some (vr 5)], [vi 1])) (S' := MS I J cc ss) 2 rfl ?_
    refine ev_r rfl rfl rfl ?_
    first | exact ⟨rfl, rfl⟩ | exact ⟨congrArg (fun z => Sum.inl (some (vi z))) (by first | rfl | (rw [if_pos (by omega)]) | (rw [if_neg (by omega)]) | (simp only [*]; done) | omega), rfl⟩
theorem sp_itemsOf_5 (X : AX) (I J : Nat → Nat → Int) (cc ss : Nat) {g : F1} (p : Nat) (hP : PRep I J 5 g) (hwp : WP g) (hp : (p : Int) < g 11) : Ev X k_X3_itemsOf (0, [some (vr 5), some (vi (p : Int))], []) (MS I J cc ss) (fun o T => o = .inl (some (vi (g (37 * p + 12)))) ∧ T = MS I J cc ss) := by
  have hw2 := hwp.2.1
  refine ev_n (fr' := (2, [some (vr 5), some (vi (p : Int))], [vi (p : Int), vr 5])) (S' := MS I J cc ss) 2 rfl ?_
  refine ev_cv rfl rfl rfl ⟨Nat.le_of_ble_eq_true rfl, Nat.le_of_ble_eq_true rfl⟩ (sp_hasRow_5 X _ _ _ _ (p : Int) hP) ?_
  show Ev X k_X3_itemsOf (5, [some (vr 5), some (vi (p : Int))], [vi (if 0 ≤ (p : Int) ∧ (p : Int) < g 11 then 1 else 0)]) (MS I J cc ss) _
  refine ev_beq _ rfl (by decide) (fun (g1 : ¬ (0 ≤ (p : Int) ∧ (p : Int) < g 11)) => False.elim (by omega)) (fun (g1 : 0 ≤ (p : Int) ∧ (p : Int) < g 11) => ?_)
  show Ev X k_X3_itemsOf (8, [some (vr 5), some (vi (p : Int))], []) (MS I J cc ss) _
  refine ev_n (fr' := (13, [some (vr 5), some (vi (p : Int))], [vi (p : Int), vr 7])) (S' := MS I J cc ss) 3 rfl ?_
  refine ev_iaN (j := p) (z := (g (37 * p + 12))) rfl rfl (by omega) (by omega) ((hP.2.2 _ (by omega)).2.1) ?_
  show Ev X k_X3_itemsOf (14, [some (vr 5), some (vi (p : Int))], [vi (g (37 * p + 12))]) (MS I J cc ss) _
  refine ev_n (fr' := (18, [some (vr 5), some (vi (p : Int))], [vi (g (37 * p + 12))])) (S' := MS I J cc ss) 1 rfl ?_
  refine ev_r rfl rfl rfl ?_
  first | exact ⟨rfl, rfl⟩ | exact ⟨congrArg (fun z => Sum.inl (some (vi z))) (by first | rfl | (rw [if_pos (by omega)]) | (rw [if_neg (by omega)]) | (simp only [*]; done) | omega), rfl⟩
theorem sp_isRowFull_5 (X : AX) (I J : Nat → Nat → Int) (cc ss : Nat) {g : F1} (p : Nat) (hP : PRep I J 5 g) (hwp : WP g) (hp : (p : Int) < g 11) : Ev X k_X3_isRowFull (0, [some (vr 5), some (vi (p : Int))], []) (MS I J cc ss) (fun o T => o = .inl (some (vi (if 6 ≤ g (37 * p + 12) then 1 else 0))) ∧ T = MS I J cc ss) := by
  refine ev_n (fr' := (2, [some (vr 5), some (vi (p : Int))], [vi (p : Int), vr 5])) (S' := MS I J cc ss) 2 rfl ?_
  refine ev_cv rfl rfl rfl ⟨Nat.le_of_ble_eq_true rfl, Nat.le_of_ble_eq_true rfl⟩ (sp_itemsOf_5 X _ _ _ _ p hP hwp (by omega)) ?_
  show Ev X k_X3_isRowFull (5, [some (vr 5), some (vi (p : Int))], [vi (g (37 * p + 12))]) (MS I J cc ss) _
  refine ev_n (fr' := (7, [some (vr 5), some (vi (p : Int))], [vi 6, vi (g (37 * p + 12))])) (S' := MS I J cc ss) 1 rfl ?_
  refine ev_ic (c := .lt) (off := 7) rfl (by decide) (fun (g1 : (g (37 * p + 12)) < 6) => ?_) (fun (g1 : ¬ ((g (37 * p + 12)) < 6)) => ?_)
  · show Ev X k_X3_isRowFull (14, [some (vr 5), some (vi (p : Int))], []) (MS I J cc ss) _
    refine ev_n (fr' := (15, [some (vr 5), some (vi (p : Int))], [vi 0])) (S' := MS I J cc ss) 1 rfl ?_
    refine ev_r rfl rfl rfl ?_
    first | exact ⟨rfl, rfl⟩ | exact ⟨congrArg (fun z => Sum.inl (some (vi z))) (by first | rfl | (rw [if_pos (by omega)]) | (rw [if_neg (by omega)]) | (simp only [*]; done) | omega), rfl⟩
  · show Ev X k_X3_isRowFull (10, [some (vr 5), some (vi (p : Int))], []) (MS I J cc ss) _
    refine ev_n (fr' := (15, [some (vr 5), some (vi (p : Int))], [vi 1])) (S' := MS I J cc ss) 2 rfl ?_
    refine ev_r rfl rfl rfl ?_
    first | exact ⟨rfl, rfl⟩ | exact ⟨congrArg (fun z => Sum.inl (some (vi z))) (by first | rfl | (rw [if_pos (by omega)]) | (rw [if_neg (by omega)]) | (simp only [*]; done) | omega), rfl⟩
theorem sp_hasItem_5 (X : AX) (I J : Nat → Nat → Int) (cc ss : Nat) {g : F1} (y : Int) (z : Int) (hP : PRep I J 5 g) (hwp : WP g) : Ev X k_X3_hasItem (0, [some (vr 5), some (vi y), some (vi z)], []) (MS I J cc ss) (fun o T => o = .inl (some (vi (if 0 ≤ y ∧ y < g 11 ∧ 0 ≤ z ∧ z < g (37 * y.toNat + 12) then 1 else 0))) ∧ T = MS I J cc ss) := by
  have hw2 := hwp.2.1
  refine ev_n (fr' := (2, [some (vr 5), some (vi y), some (vi z)], [vi y, vr 5])) (S' := MS I J cc ss) 2 rfl ?_
  refine ev_cv rfl rfl rfl ⟨Nat.le_of_ble_eq_true rfl, Nat.le_of_ble_eq_true rfl⟩ (sp_hasRow_5 X _ _ _ _ y hP) ?_
  show Ev X k_X3_hasItem (5, [some (vr 5), some (vi y), some (vi z)], [vi (if 0 ≤ y ∧ y < g 11 then 1 else 0)]) (MS I J cc ss) _
  refine ev_beq _ rfl (by decide) (fun (g1 : ¬ (0 ≤ y ∧ y < g 11)) => ?_) (fun (g1 : 0 ≤ y ∧ y < g 11) => ?_)
  · show Ev X k_X3_hasItem (26, [some (vr 5), some (vi y), some (vi z)], []) (MS I J cc ss) _
    refine ev_n (fr' := (27, [some (vr 5), some (vi y), some (vi z)], [vi 0])) (S' := MS I J cc ss) 1 rfl ?_
    refine ev_r rfl rfl rfl ?_
    first | exact ⟨rfl, rfl⟩ | exact ⟨congrArg (fun z => Sum.inl (some (vi z))) (by first | rfl | (rw [if_pos (by omega)]) | (rw [if_neg (by omega)]) | (simp only [*]; done) | omega), rfl⟩
  · show Ev X k_X3_hasItem (8, [some (vr 5), some (vi y), some (vi z)], []) (MS I J cc ss) _
    refine ev_n (fr' := (9, [some (vr 5), some (vi y), some (vi z)], [vi z])) (S' := MS I J cc ss) 1 rfl ?_
    refine ev_if (c := .lt) (off := 17) rfl (by decide) (fun (g2 : z < 0) => ?_) (fun (g2 : ¬ (z < 0)) => ?_)
    · show Ev X k_X3_hasItem (26, [some (vr 5), some (vi y), some (vi z)], []) (MS I J cc ss) _
      refine ev_n (fr' := (27, [some (vr 5), some (vi y), some (vi z)], [vi 0])) (S' := MS I J cc ss) 1 rfl ?_
      refine ev_r rfl rfl rfl ?_
      first | exact ⟨rfl, rfl⟩ | exact ⟨congrArg (fun z => Sum.inl (some (vi z))) (by first | rfl | (rw [if_pos (by omega)]) | (rw [if_neg (by omega)]) | (simp only [*]; done) | omega), rfl⟩
    · show Ev X k_X3_hasItem (12, [some (vr 5), some (vi y), some (vi z)], []) (MS I J cc ss) _
      refine ev_n (fr' := (18, [some (vr 5), some (vi y), some (vi z)], [vi y, vr 7, vi z])) (S' := MS I J cc ss) 4 rfl ?_
      refine ev_iaN (j := (y).toNat) (z := (g (37 * ((y).toNat) + 12))) rfl rfl (by omega) (by omega) ((hP.2.2 _ (by omega)).2.1) ?_
      show Ev X k_X3_hasItem (19, [some (vr 5), some (vi y), some (vi z)], [vi (g (37 * ((y).toNat) + 12)), vi z]) (MS I J cc ss) _
      refine ev_ic (c := .ge) (off := 7) rfl (by decide) (fun (g3 : (g (37 * ((y).toNat) + 12)) ≤ z) => ?_) (fun (g3 : ¬ ((g (37 * ((y).toNat) + 12)) ≤ z)) => ?_)
      · show Ev X k_X3_hasItem (26, [some (vr 5), some (vi y), some (vi z)], []) (MS I J cc ss) _
        refine ev_n (fr' := (27, [some (vr 5), some (vi y), some (vi z)], [vi 0])) (S' := MS I J cc ss) 1 rfl ?_
        refine ev_r rfl rfl rfl ?_
        first | exact ⟨rfl, rfl⟩ | exact ⟨congrArg (fun z => Sum.inl (some (vi z))) (by first | rfl | (rw [if_pos (by omega)]) | (rw [if_neg (by omega)]) | (simp only [*]; done) | omega), rfl⟩
      · show Ev X k_X3_hasItem (22, [some (vr 5), some (vi y), some (vi z)], []) (MS I J cc ss) _
        refine ev_n (fr' := (27, [some (vr 5), some (vi y), some (vi z)], [vi 1])) (S' := MS I J cc ss) 2 rfl ?_
        refine ev_r rfl rfl rfl ?_
        first | exact ⟨rfl, rfl⟩ | exact ⟨congrArg (fun z => Sum.inl (some (vi z))) (by first | rfl | (rw [if_pos (by omega)]) | (rw [if_neg (by omega)]) | (simp only [*]; done) | omega), rfl⟩
theorem sp_cellOf_5 (X : AX) (I J : Nat → Nat → Int) (cc ss : Nat) {g : F1} (p : Nat) (s : Nat) (w : Nat) (hP : PRep I J 5 g) (hwp : WP g) (hp : (p : Int) < g 11) (hs : (s : Int) < g (37 * p + 12)) (hq : w < 6) : Ev X k_X3_cellOf (0, [some (vr 5), some (vi (p : Int)), some (vi (s : Int)), some (vi (w : Int))], []) (MS I J cc ss) (fun o T => o = .inl (some (vi (36 * (p : Int) + 6 * (s : Int) + (w : Int)))) ∧ T = MS I J cc ss) := by
  have hw2 := hwp.2.1
  have hw3 := (hwp.2.2 p hp).2.1
  refine ev_n (fr' := (1, [some (vr 5), some (vi (p : Int)), some (vi (s : Int)), some (vi (w : Int))], [vi (p : Int)])) (S' := MS I J cc ss) 1 rfl ?_
  refine ev_if (c := .lt) (off := 37) rfl (by decide) (fun (g1 : (p : Int) < 0) => False.elim (by omega)) (fun (g1 : ¬ ((p : Int) < 0)) => ?_)
  show Ev X k_X3_cellOf (4, [some (vr 5), some (vi (p : Int)), some (vi (s : Int)), some (vi (w : Int))], []) (MS I J cc ss) _
  refine ev_n (fr' := (9, [some (vr 5), some (vi (p : Int)), some (vi (s : Int)), some (vi (w : Int))], [vi (I 5 4), vi (p : Int)])) (S' := MS I J cc ss) 3 rfl ?_
  refine ev_eqi (hP.2.1) ?_
  show Ev X k_X3_cellOf (9, [some (vr 5), some (vi (p : Int)), some (vi (s : Int)), some (vi (w : Int))], [vi (g 11), vi (p : Int)]) (MS I J cc ss) _
  refine ev_ic (c := .ge) (off := 29) rfl (by decide) (fun (g2 : (g 11) ≤ (p : Int)) => False.elim (by omega)) (fun (g2 : ¬ ((g 11) ≤ (p : Int))) => ?_)
  show Ev X k_X3_cellOf (12, [some (vr 5), some (vi (p : Int)), some (vi (s : Int)), some (vi (w : Int))], []) (MS I J cc ss) _
  refine ev_n (fr' := (13, [some (vr 5), some (vi (p : Int)), some (vi (s : Int)), some (vi (w : Int))], [vi (s : Int)])) (S' := MS I J cc ss) 1 rfl ?_
  refine ev_if (c := .lt) (off := 25) rfl (by decide) (fun (g3 : (s : Int) < 0) => False.elim (by omega)) (fun (g3 : ¬ ((s : Int) < 0)) => ?_)
  show Ev X k_X3_cellOf (16, [some (vr 5), some (vi (p : Int)), some (vi (s : Int)), some (vi (w : Int))], []) (MS I J cc ss) _
  refine ev_n (fr' := (22, [some (vr 5), some (vi (p : Int)), some (vi (s : Int)), some (vi (w : Int))], [vi (p : Int), vr 7, vi (s : Int)])) (S' := MS I J cc ss) 4 rfl ?_
  refine ev_iaN (j := p) (z := (g (37 * p + 12))) rfl rfl (by omega) (by omega) ((hP.2.2 _ (by omega)).2.1) ?_
  show Ev X k_X3_cellOf (23, [some (vr 5), some (vi (p : Int)), some (vi (s : Int)), some (vi (w : Int))], [vi (g (37 * p + 12)), vi (s : Int)]) (MS I J cc ss) _
  refine ev_ic (c := .ge) (off := 15) rfl (by decide) (fun (g4 : (g (37 * p + 12)) ≤ (s : Int)) => False.elim (by omega)) (fun (g4 : ¬ ((g (37 * p + 12)) ≤ (s : Int))) => ?_)
  show Ev X k_X3_cellOf (26, [some (vr 5), some (vi (p : Int)), some (vi (s : Int)), some (vi (w : Int))], []) (MS I J cc ss) _
  refine ev_n (fr' := (27, [some (vr 5), some (vi (p : Int)), some (vi (s : Int)), some (vi (w : Int))], [vi (w : Int)])) (S' := MS I J cc ss) 1 rfl ?_
  refine ev_if (c := .lt) (off := 11) rfl (by decide) (fun (g5 : (w : Int) < 0) => False.elim (by omega)) (fun (g5 : ¬ ((w : Int) < 0)) => ?_)
  show Ev X k_X3_cellOf (30, [some (vr 5), some (vi (p : Int)), some (vi (s : Int)), some (vi (w : Int))], []) (MS I J cc ss) _
  refine ev_n (fr' := (35, [some (vr 5), some (vi (p : Int)), some (vi (s : Int)), some (vi (w : Int))], [vi (I 5 0), vi (w : Int)])) (S' := MS I J cc ss) 3 rfl ?_
  refine ev_eqi (hP.1) ?_
  show Ev X k_X3_cellOf (35, [some (vr 5), some (vi (p : Int)), some (vi (s : Int)), some (vi (w : Int))], [vi 6, vi (w : Int)]) (MS I J cc ss) _
  refine ev_ic (c := .lt) (off := 5) rfl (by decide) (fun (g6 : (w : Int) < 6) => ?_) (fun (g6 : ¬ ((w : Int) < 6)) => False.elim (by omega))
  show Ev X k_X3_cellOf (40, [some (vr 5), some (vi (p : Int)), some (vi (s : Int)), some (vi (w : Int))], []) (MS I J cc ss) _
  refine ev_n (fr' := (43, [some (vr 5), some (vi (p : Int)), some (vi (s : Int)), some (vi (w : Int))], [vi 6, vi (p : Int)])) (S' := MS I J cc ss) 2 rfl ?_
  refine ev_mul (z := 6 * (p : Int)) rfl (by omega) (by omega) (by omega) ?_
  show Ev X k_X3_cellOf (44, [some (vr 5), some (vi (p : Int)), some (vi (s : Int)), some (vi (w : Int))], [vi (6 * (p : Int))]) (MS I J cc ss) _
  refine ev_n (fr' := (45, [some (vr 5), some (vi (p : Int)), some (vi (s : Int)), some (vi (w : Int))], [vi (s : Int), vi (6 * (p : Int))])) (S' := MS I J cc ss) 1 rfl ?_
  refine ev_add (z := 6 * (p : Int) + (s : Int)) rfl (by omega) (by omega) (by omega) ?_
  show Ev X k_X3_cellOf (46, [some (vr 5), some (vi (p : Int)), some (vi (s : Int)), some (vi (w : Int))], [vi (6 * (p : Int) + (s : Int))]) (MS I J cc ss) _
  refine ev_n (fr' := (50, [some (vr 5), some (vi (p : Int)), some (vi (s : Int)), some (vi (w : Int))], [vi (I 5 0), vi (6 * (p : Int) + (s : Int))])) (S' := MS I J cc ss) 2 rfl ?_
  refine ev_eqi (hP.1) ?_
  show Ev X k_X3_cellOf (50, [some (vr 5), some (vi (p : Int)), some (vi (s : Int)), some (vi (w : Int))], [vi 6, vi (6 * (p : Int) + (s : Int))]) (MS I J cc ss) _
  refine ev_mul (z := 36 * (p : Int) + 6 * (s : Int)) rfl (by omega) (by omega) (by omega) ?_
  show Ev X k_X3_cellOf (51, [some (vr 5), some (vi (p : Int)), some (vi (s : Int)), some (vi (w : Int))], [vi (36 * (p : Int) + 6 * (s : Int))]) (MS I J cc ss) _
  refine ev_n (fr' := (52, [some (vr 5), some (vi (p : Int)), some (vi (s : Int)), some (vi (w : Int))], [vi (w : Int), vi (36 * (p : Int) + 6 * (s : Int))])) (S' := MS I J cc ss) 1 rfl ?_
  refine ev_add (z := 36 * (p : Int) + 6 * (s : Int) + (w : Int)) rfl (by omega) (by omega) (by omega) ?_
  show Ev X k_X3_cellOf (53, [some (vr 5), some (vi (p : Int)), some (vi (s : Int)), some (vi (w : Int))], [vi (36 * (p : Int) + 6 * (s : Int) + (w : Int))]) (MS I J cc ss) _
  refine ev_r rfl rfl rfl ?_
  first | exact ⟨rfl, rfl⟩ | exact ⟨congrArg (fun z => Sum.inl (some (vi z))) (by first | rfl | (rw [if_pos (by omega)]) | (rw [if_neg (by omega)]) | (simp only [*]; done) | omega), rfl⟩
theorem sp_number_5 (X : AX) (I J : Nat → Nat → Int) (cc ss : Nat) {g : F1} (p : Nat) (s : Nat) (w : Nat) (hP : PRep I J 5 g) (hwp : WP g) (hp : (p : Int) < g 11) (hs : (s : Int) < g (37 * p + 12)) (hq : w < 6) : Ev X k_X3_number (0, [some (vr 5), some (vi (p : Int)), some (vi (s : Int)), some (vi (w : Int)), none], []) (MS I J cc ss) (fun o T => o = .inl (some (vi (g (37 * p + 6 * s + w + 13)))) ∧ T = MS I J cc ss) := by
  have hw2 := hwp.2.1
  have hw3 := (hwp.2.2 p hp).2.1
  refine ev_n (fr' := (4, [some (vr 5), some (vi (p : Int)), some (vi (s : Int)), some (vi (w : Int)), none], [vi (w : Int), vi (s : Int), vi (p : Int), vr 5])) (S' := MS I J cc ss) 4 rfl ?_
  refine ev_cv rfl rfl rfl ⟨Nat.le_of_ble_eq_true rfl, Nat.le_of_ble_eq_true rfl⟩ (sp_cellOf_5 X _ _ _ _ p s w hP hwp (by omega) (by omega) (by omega)) ?_
  show Ev X k_X3_number (7, [some (vr 5), some (vi (p : Int)), some (vi (s : Int)), some (vi (w : Int)), none], [vi (36 * (p : Int) + 6 * (s : Int) + (w : Int))]) (MS I J cc ss) _
  refine ev_n (fr' := (19, [some (vr 5), some (vi (p : Int)), some (vi (s : Int)), some (vi (w : Int)), some (vi (36 * (p : Int) + 6 * (s : Int) + (w : Int)))], [vi 287, vi 0, vi (36 * (p : Int) + 6 * (s : Int) + (w : Int))])) (S' := MS I J cc ss) 8 rfl ?_
  refine ev_cv rfl rfl rfl ⟨Nat.le_of_ble_eq_true rfl, Nat.le_of_ble_eq_true rfl⟩ (sp_within X _ (36 * (p : Int) + 6 * (s : Int) + (w : Int)) 0 287 ) ?_
  show Ev X k_X3_number (22, [some (vr 5), some (vi (p : Int)), some (vi (s : Int)), some (vi (w : Int)), some (vi (36 * (p : Int) + 6 * (s : Int) + (w : Int)))], [vi (if 0 ≤ 36 * (p : Int) + 6 * (s : Int) + (w : Int) ∧ 36 * (p : Int) + 6 * (s : Int) + (w : Int) ≤ 287 then 1 else 0)]) (MS I J cc ss) _
  refine ev_beq _ rfl (by decide) (fun (g1 : ¬ (0 ≤ 36 * (p : Int) + 6 * (s : Int) + (w : Int) ∧ 36 * (p : Int) + 6 * (s : Int) + (w : Int) ≤ 287)) => False.elim (by omega)) (fun (g1 : 0 ≤ 36 * (p : Int) + 6 * (s : Int) + (w : Int) ∧ 36 * (p : Int) + 6 * (s : Int) + (w : Int) ≤ 287) => ?_)
  show Ev X k_X3_number (25, [some (vr 5), some (vi (p : Int)), some (vi (s : Int)), some (vi (w : Int)), some (vi (36 * (p : Int) + 6 * (s : Int) + (w : Int)))], []) (MS I J cc ss) _
  refine ev_n (fr' := (31, [some (vr 5), some (vi (p : Int)), some (vi (s : Int)), some (vi (w : Int)), some (vi (36 * (p : Int) + 6 * (s : Int) + (w : Int)))], [vi (36 * (p : Int) + 6 * (s : Int) + (w : Int)), vr 8])) (S' := MS I J cc ss) 3 rfl ?_
  refine ev_iaN (j := 36 * p + 6 * s + w) (z := (g (37 * p + 6 * s + w + 13))) rfl rfl (by omega) (by omega) ((hP.2.2 _ hp).2.2 _ _ hs hq) ?_
  show Ev X k_X3_number (32, [some (vr 5), some (vi (p : Int)), some (vi (s : Int)), some (vi (w : Int)), some (vi (36 * (p : Int) + 6 * (s : Int) + (w : Int)))], [vi (g (37 * p + 6 * s + w + 13))]) (MS I J cc ss) _
  refine ev_n (fr' := (36, [some (vr 5), some (vi (p : Int)), some (vi (s : Int)), some (vi (w : Int)), some (vi (36 * (p : Int) + 6 * (s : Int) + (w : Int)))], [vi (g (37 * p + 6 * s + w + 13))])) (S' := MS I J cc ss) 1 rfl ?_
  refine ev_r rfl rfl rfl ?_
  first | exact ⟨rfl, rfl⟩ | exact ⟨congrArg (fun z => Sum.inl (some (vi z))) (by first | rfl | (rw [if_pos (by omega)]) | (rw [if_neg (by omega)]) | (simp only [*]; done) | omega), rfl⟩
theorem sp_rowCount_9 (X : AX) (I J : Nat → Nat → Int) (cc ss : Nat) {g : F1} (hI : IRep I J 9 g) : Ev X k_X3_rowCount (0, [some (vr 9)], []) (MS I J cc ss) (fun o T => o = .inl (some (vi (g 308))) ∧ T = MS I J cc ss) := by
  refine ev_n (fr' := (4, [some (vr 9)], [vi (I 9 4)])) (S' := MS I J cc ss) 2 rfl ?_
  refine ev_eqi (hI.2.1) ?_
  show Ev X k_X3_rowCount (4, [some (vr 9)], [vi (g 308)]) (MS I J cc ss) _
  refine ev_r rfl rfl rfl ?_
  first | exact ⟨rfl, rfl⟩ | exact ⟨congrArg (fun z => Sum.inl (some (vi z))) (by first | rfl | (rw [if_pos (by omega)]) | (rw [if_neg (by omega)]) | (simp only [*]; done) | omega), rfl⟩
theorem sp_hasRow_9 (X : AX) (I J : Nat → Nat → Int) (cc ss : Nat) {g : F1} (z : Int) (hI : IRep I J 9 g) : Ev X k_X3_hasRow (0, [some (vr 9), some (vi z)], []) (MS I J cc ss) (fun o T => o = .inl (some (vi (if 0 ≤ z ∧ z < g 308 then 1 else 0))) ∧ T = MS I J cc ss) := by
  refine ev_n (fr' := (1, [some (vr 9), some (vi z)], [vi z])) (S' := MS I J cc ss) 1 rfl ?_
  refine ev_if (c := .lt) (off := 15) rfl (by decide) (fun (g1 : z < 0) => ?_) (fun (g1 : ¬ (z < 0)) => ?_)
  · show Ev X k_X3_hasRow (16, [some (vr 9), some (vi z)], []) (MS I J cc ss) _
    refine ev_n (fr' := (17, [some (vr 9), some (vi z)], [vi 0])) (S' := MS I J cc ss) 1 rfl ?_
    refine ev_r rfl rfl rfl ?_
    first | exact ⟨rfl, rfl⟩ | exact ⟨congrArg (fun z => Sum.inl (some (vi z))) (by first | rfl | (rw [if_pos (by omega)]) | (rw [if_neg (by omega)]) | (simp only [*]; done) | omega), rfl⟩
  · show Ev X k_X3_hasRow (4, [some (vr 9), some (vi z)], []) (MS I J cc ss) _
    refine ev_n (fr' := (9, [some (vr 9), some (vi z)], [vi (I 9 4), vi z])) (S' := MS I J cc ss) 3 rfl ?_
    refine ev_eqi (hI.2.1) ?_
    show Ev X k_X3_hasRow (9, [some (vr 9), some (vi z)], [vi (g 308), vi z]) (MS I J cc ss) _
    refine ev_ic (c := .ge) (off := 7) rfl (by decide) (fun (g2 : (g 308) ≤ z) => ?_) (fun (g2 : ¬ ((g 308) ≤ z)) => ?_)
    · show Ev X k_X3_hasRow (16, [some (vr 9), some (vi z)], []) (MS I J cc ss) _
      refine ev_n (fr' := (17, [some (vr 9), some (vi z)], [vi 0])) (S' := MS I J cc ss) 1 rfl ?_
      refine ev_r rfl rfl rfl ?_
      first | exact ⟨rfl, rfl⟩ | exact ⟨congrArg (fun z => Sum.inl (some (vi z))) (by first | rfl | (rw [if_pos (by omega)]) | (rw [if_neg (by omega)]) | (simp only [*]; done) | omega), rfl⟩
    · show Ev X k_X3_hasRow (12, [some (vr 9), some (vi z)], []) (MS I J cc ss) _
      refine ev_n (fr' := (17, [some (vr 9), some (vi z)], [vi 1])) (S' := MS I J cc ss) 2 rfl ?_
      refine ev_r rfl rfl rfl ?_
      first | exact ⟨rfl, rfl⟩ | exact ⟨congrArg (fun z => Sum.inl (some (vi z))) (by first | rfl | (rw [if_pos (by omega)]) | (rw [if_neg (by omega)]) | (simp only [*]; done) | omega), rfl⟩
theorem sp_rIsFull_9 (X : AX) (I J : Nat → Nat → Int) (cc ss : Nat) {g : F1} (hI : IRep I J 9 g) : Ev X k_X3_isFull (0, [some (vr 9)], []) (MS I J cc ss) (fun o T => o = .inl (some (vi (if 8 ≤ g 308 then 1 else 0))) ∧ T = MS I J cc ss) := by
  refine ev_n (fr' := (4, [some (vr 9)], [vi (I 9 4)])) (S' := MS I J cc ss) 2 rfl ?_
  refine ev_eqi (hI.2.1) ?_
  show Ev X k_X3_isFull (4, [some (vr 9)], [vi (g 308)]) (MS I J cc ss) _
  refine ev_n (fr' := (6, [some (vr 9)], [vi 8, vi (g 308)])) (S' := MS I J cc ss) 1 rfl ?_
  refine ev_ic (c := .lt) (off := 7) rfl (by decide) (fun (g1 : (g 308) < 8) => ?_) (fun (g1 : ¬ ((g 308) < 8)) => ?_)
  · show Ev X k_X3_isFull (13, [some (vr 9)], []) (MS I J cc ss) _
    refine ev_n (fr' := (14, [some (vr 9)], [vi 0])) (S' := MS I J cc ss) 1 rfl ?_
    refine ev_r rfl rfl rfl ?_
    first | exact ⟨rfl, rfl⟩ | exact ⟨congrArg (fun z => Sum.inl (some (vi z))) (by first | rfl | (rw [if_pos (by omega)]) | (rw [if_neg (by omega)]) | (simp only [*]; done) | omega), rfl⟩
  · show Ev X k_X3_isFull (9, [some (vr 9)], []) (MS I J cc ss) _
    refine ev_n (fr' := (14, [some (vr 9)], [vi 1])) (S' := MS I J cc ss) 2 rfl ?_
    refine ev_r rfl rfl rfl ?_
    first | exact ⟨rfl, rfl⟩ | exact ⟨congrArg (fun z => Sum.inl (some (vi z))) (by first | rfl | (rw [if_pos (by omega)]) | (rw [if_neg (by omega)]) | (simp only [*]; done) | omega), rfl⟩
theorem sp_itemsOf_9 (X : AX) (I J : Nat → Nat → Int) (cc ss : Nat) {g : F1} (p : Nat) (hI : IRep I J 9 g) (hwi : WI g) (hp : (p : Int) < g 308) : Ev X k_X3_itemsOf (0, [some (vr 9), some (vi (p : Int))], []) (MS I J cc ss) (fun o T => o = .inl (some (vi (g (19 * p + 309)))) ∧ T = MS I J cc ss) := by
  have hw2 := hwi.2.1
  refine ev_n (fr' := (2, [some (vr 9), some (vi (p : Int))], [vi (p : Int), vr 9])) (S' := MS I J cc ss) 2 rfl ?_
  refine ev_cv rfl rfl rfl ⟨Nat.le_of_ble_eq_true rfl, Nat.le_of_ble_eq_true rfl⟩ (sp_hasRow_9 X _ _ _ _ (p : Int) hI) ?_
  show Ev X k_X3_itemsOf (5, [some (vr 9), some (vi (p : Int))], [vi (if 0 ≤ (p : Int) ∧ (p : Int) < g 308 then 1 else 0)]) (MS I J cc ss) _
  refine ev_beq _ rfl (by decide) (fun (g1 : ¬ (0 ≤ (p : Int) ∧ (p : Int) < g 308)) => False.elim (by omega)) (fun (g1 : 0 ≤ (p : Int) ∧ (p : Int) < g 308) => ?_)
  show Ev X k_X3_itemsOf (8, [some (vr 9), some (vi (p : Int))], []) (MS I J cc ss) _
  refine ev_n (fr' := (13, [some (vr 9), some (vi (p : Int))], [vi (p : Int), vr 11])) (S' := MS I J cc ss) 3 rfl ?_
  refine ev_iaN (j := p) (z := (g (19 * p + 309))) rfl rfl (by omega) (by omega) ((hI.2.2 _ (by omega)).2.1) ?_
  show Ev X k_X3_itemsOf (14, [some (vr 9), some (vi (p : Int))], [vi (g (19 * p + 309))]) (MS I J cc ss) _
  refine ev_n (fr' := (18, [some (vr 9), some (vi (p : Int))], [vi (g (19 * p + 309))])) (S' := MS I J cc ss) 1 rfl ?_
  refine ev_r rfl rfl rfl ?_
  first | exact ⟨rfl, rfl⟩ | exact ⟨congrArg (fun z => Sum.inl (some (vi z))) (by first | rfl | (rw [if_pos (by omega)]) | (rw [if_neg (by omega)]) | (simp only [*]; done) | omega), rfl⟩
theorem sp_isRowFull_9 (X : AX) (I J : Nat → Nat → Int) (cc ss : Nat) {g : F1} (p : Nat) (hI : IRep I J 9 g) (hwi : WI g) (hp : (p : Int) < g 308) : Ev X k_X3_isRowFull (0, [some (vr 9), some (vi (p : Int))], []) (MS I J cc ss) (fun o T => o = .inl (some (vi (if 6 ≤ g (19 * p + 309) then 1 else 0))) ∧ T = MS I J cc ss) := by
  refine ev_n (fr' := (2, [some (vr 9), some (vi (p : Int))], [vi (p : Int), vr 9])) (S' := MS I J cc ss) 2 rfl ?_
  refine ev_cv rfl rfl rfl ⟨Nat.le_of_ble_eq_true rfl, Nat.le_of_ble_eq_true rfl⟩ (sp_itemsOf_9 X _ _ _ _ p hI hwi (by omega)) ?_
  show Ev X k_X3_isRowFull (5, [some (vr 9), some (vi (p : Int))], [vi (g (19 * p + 309))]) (MS I J cc ss) _
  refine ev_n (fr' := (7, [some (vr 9), some (vi (p : Int))], [vi 6, vi (g (19 * p + 309))])) (S' := MS I J cc ss) 1 rfl ?_
  refine ev_ic (c := .lt) (off := 7) rfl (by decide) (fun (g1 : (g (19 * p + 309)) < 6) => ?_) (fun (g1 : ¬ ((g (19 * p + 309)) < 6)) => ?_)
  · show Ev X k_X3_isRowFull (14, [some (vr 9), some (vi (p : Int))], []) (MS I J cc ss) _
    refine ev_n (fr' := (15, [some (vr 9), some (vi (p : Int))], [vi 0])) (S' := MS I J cc ss) 1 rfl ?_
    refine ev_r rfl rfl rfl ?_
    first | exact ⟨rfl, rfl⟩ | exact ⟨congrArg (fun z => Sum.inl (some (vi z))) (by first | rfl | (rw [if_pos (by omega)]) | (rw [if_neg (by omega)]) | (simp only [*]; done) | omega), rfl⟩
  · show Ev X k_X3_isRowFull (10, [some (vr 9), some (vi (p : Int))], []) (MS I J cc ss) _
    refine ev_n (fr' := (15, [some (vr 9), some (vi (p : Int))], [vi 1])) (S' := MS I J cc ss) 2 rfl ?_
    refine ev_r rfl rfl rfl ?_
    first | exact ⟨rfl, rfl⟩ | exact ⟨congrArg (fun z => Sum.inl (some (vi z))) (by first | rfl | (rw [if_pos (by omega)]) | (rw [if_neg (by omega)]) | (simp only [*]; done) | omega), rfl⟩
theorem sp_hasItem_9 (X : AX) (I J : Nat → Nat → Int) (cc ss : Nat) {g : F1} (y : Int) (z : Int) (hI : IRep I J 9 g) (hwi : WI g) : Ev X k_X3_hasItem (0, [some (vr 9), some (vi y), some (vi z)], []) (MS I J cc ss) (fun o T => o = .inl (some (vi (if 0 ≤ y ∧ y < g 308 ∧ 0 ≤ z ∧ z < g (19 * y.toNat + 309) then 1 else 0))) ∧ T = MS I J cc ss) := by
  have hw2 := hwi.2.1
  refine ev_n (fr' := (2, [some (vr 9), some (vi y), some (vi z)], [vi y, vr 9])) (S' := MS I J cc ss) 2 rfl ?_
  refine ev_cv rfl rfl rfl ⟨Nat.le_of_ble_eq_true rfl, Nat.le_of_ble_eq_true rfl⟩ (sp_hasRow_9 X _ _ _ _ y hI) ?_
  show Ev X k_X3_hasItem (5, [some (vr 9), some (vi y), some (vi z)], [vi (if 0 ≤ y ∧ y < g 308 then 1 else 0)]) (MS I J cc ss) _
  refine ev_beq _ rfl (by decide) (fun (g1 : ¬ (0 ≤ y ∧ y < g 308)) => ?_) (fun (g1 : 0 ≤ y ∧ y < g 308) => ?_)
  · show Ev X k_X3_hasItem (26, [some (vr 9), some (vi y), some (vi z)], []) (MS I J cc ss) _
    refine ev_n (fr' := (27, [some (vr 9), some (vi y), some (vi z)], [vi 0])) (S' := MS I J cc ss) 1 rfl ?_
    refine ev_r rfl rfl rfl ?_
    first | exact ⟨rfl, rfl⟩ | exact ⟨congrArg (fun z => Sum.inl (some (vi z))) (by first | rfl | (rw [if_pos (by omega)]) | (rw [if_neg (by omega)]) | (simp only [*]; done) | omega), rfl⟩
  · show Ev X k_X3_hasItem (8, [some (vr 9), some (vi y), some (vi z)], []) (MS I J cc ss) _
    refine ev_n (fr' := (9, [some (vr 9), some (vi y), some (vi z)], [vi z])) (S' := MS I J cc ss) 1 rfl ?_
    refine ev_if (c := .lt) (off := 17) rfl (by decide) (fun (g2 : z < 0) => ?_) (fun (g2 : ¬ (z < 0)) => ?_)
    · show Ev X k_X3_hasItem (26, [some (vr 9), some (vi y), some (vi z)], []) (MS I J cc ss) _
      refine ev_n (fr' := (27, [some (vr 9), some (vi y), some (vi z)], [vi 0])) (S' := MS I J cc ss) 1 rfl ?_
      refine ev_r rfl rfl rfl ?_
      first | exact ⟨rfl, rfl⟩ | exact ⟨congrArg (fun z => Sum.inl (some (vi z))) (by first | rfl | (rw [if_pos (by omega)]) | (rw [if_neg (by omega)]) | (simp only [*]; done) | omega), rfl⟩
    · show Ev X k_X3_hasItem (12, [some (vr 9), some (vi y), some (vi z)], []) (MS I J cc ss) _
      refine ev_n (fr' := (18, [some (vr 9), some (vi y), some (vi z)], [vi y, vr 11, vi z])) (S' := MS I J cc ss) 4 rfl ?_
      refine ev_iaN (j := (y).toNat) (z := (g (19 * ((y).toNat) + 309))) rfl rfl (by omega) (by omega) ((hI.2.2 _ (by omega)).2.1) ?_
      show Ev X k_X3_hasItem (19, [some (vr 9), some (vi y), some (vi z)], [vi (g (19 * ((y).toNat) + 309)), vi z]) (MS I J cc ss) _
      refine ev_ic (c := .ge) (off := 7) rfl (by decide) (fun (g3 : (g (19 * ((y).toNat) + 309)) ≤ z) => ?_) (fun (g3 : ¬ ((g (19 * ((y).toNat) + 309)) ≤ z)) => ?_)
      · show Ev X k_X3_hasItem (26, [some (vr 9), some (vi y), some (vi z)], []) (MS I J cc ss) _
        refine ev_n (fr' := (27, [some (vr 9), some (vi y), some (vi z)], [vi 0])) (S' := MS I J cc ss) 1 rfl ?_
        refine ev_r rfl rfl rfl ?_
        first | exact ⟨rfl, rfl⟩ | exact ⟨congrArg (fun z => Sum.inl (some (vi z))) (by first | rfl | (rw [if_pos (by omega)]) | (rw [if_neg (by omega)]) | (simp only [*]; done) | omega), rfl⟩
      · show Ev X k_X3_hasItem (22, [some (vr 9), some (vi y), some (vi z)], []) (MS I J cc ss) _
        refine ev_n (fr' := (27, [some (vr 9), some (vi y), some (vi z)], [vi 1])) (S' := MS I J cc ss) 2 rfl ?_
        refine ev_r rfl rfl rfl ?_
        first | exact ⟨rfl, rfl⟩ | exact ⟨congrArg (fun z => Sum.inl (some (vi z))) (by first | rfl | (rw [if_pos (by omega)]) | (rw [if_neg (by omega)]) | (simp only [*]; done) | omega), rfl⟩
theorem sp_cellOf_9 (X : AX) (I J : Nat → Nat → Int) (cc ss : Nat) {g : F1} (p : Nat) (s : Nat) (w : Nat) (hI : IRep I J 9 g) (hwi : WI g) (hp : (p : Int) < g 308) (hs : (s : Int) < g (19 * p + 309)) (hq : w < 3) : Ev X k_X3_cellOf (0, [some (vr 9), some (vi (p : Int)), some (vi (s : Int)), some (vi (w : Int))], []) (MS I J cc ss) (fun o T => o = .inl (some (vi (18 * (p : Int) + 3 * (s : Int) + (w : Int)))) ∧ T = MS I J cc ss) := by
  have hw2 := hwi.2.1
  have hw3 := (hwi.2.2 p hp).2.1
  refine ev_n (fr' := (1, [some (vr 9), some (vi (p : Int)), some (vi (s : Int)), some (vi (w : Int))], [vi (p : Int)])) (S' := MS I J cc ss) 1 rfl ?_
  refine ev_if (c := .lt) (off := 37) rfl (by decide) (fun (g1 : (p : Int) < 0) => False.elim (by omega)) (fun (g1 : ¬ ((p : Int) < 0)) => ?_)
  show Ev X k_X3_cellOf (4, [some (vr 9), some (vi (p : Int)), some (vi (s : Int)), some (vi (w : Int))], []) (MS I J cc ss) _
  refine ev_n (fr' := (9, [some (vr 9), some (vi (p : Int)), some (vi (s : Int)), some (vi (w : Int))], [vi (I 9 4), vi (p : Int)])) (S' := MS I J cc ss) 3 rfl ?_
  refine ev_eqi (hI.2.1) ?_
  show Ev X k_X3_cellOf (9, [some (vr 9), some (vi (p : Int)), some (vi (s : Int)), some (vi (w : Int))], [vi (g 308), vi (p : Int)]) (MS I J cc ss) _
  refine ev_ic (c := .ge) (off := 29) rfl (by decide) (fun (g2 : (g 308) ≤ (p : Int)) => False.elim (by omega)) (fun (g2 : ¬ ((g 308) ≤ (p : Int))) => ?_)
  show Ev X k_X3_cellOf (12, [some (vr 9), some (vi (p : Int)), some (vi (s : Int)), some (vi (w : Int))], []) (MS I J cc ss) _
  refine ev_n (fr' := (13, [some (vr 9), some (vi (p : Int)), some (vi (s : Int)), some (vi (w : Int))], [vi (s : Int)])) (S' := MS I J cc ss) 1 rfl ?_
  refine ev_if (c := .lt) (off := 25) rfl (by decide) (fun (g3 : (s : Int) < 0) => False.elim (by omega)) (fun (g3 : ¬ ((s : Int) < 0)) => ?_)
  show Ev X k_X3_cellOf (16, [some (vr 9), some (vi (p : Int)), some (vi (s : Int)), some (vi (w : Int))], []) (MS I J cc ss) _
  refine ev_n (fr' := (22, [some (vr 9), some (vi (p : Int)), some (vi (s : Int)), some (vi (w : Int))], [vi (p : Int), vr 11, vi (s : Int)])) (S' := MS I J cc ss) 4 rfl ?_
  refine ev_iaN (j := p) (z := (g (19 * p + 309))) rfl rfl (by omega) (by omega) ((hI.2.2 _ (by omega)).2.1) ?_
  show Ev X k_X3_cellOf (23, [some (vr 9), some (vi (p : Int)), some (vi (s : Int)), some (vi (w : Int))], [vi (g (19 * p + 309)), vi (s : Int)]) (MS I J cc ss) _
  refine ev_ic (c := .ge) (off := 15) rfl (by decide) (fun (g4 : (g (19 * p + 309)) ≤ (s : Int)) => False.elim (by omega)) (fun (g4 : ¬ ((g (19 * p + 309)) ≤ (s : Int))) => ?_)
  show Ev X k_X3_cellOf (26, [some (vr 9), some (vi (p : Int)), some (vi (s : Int)), some (vi (w : Int))], []) (MS I J cc ss) _
  refine ev_n (fr' := (27, [some (vr 9), some (vi (p : Int)), some (vi (s : Int)), some (vi (w : Int))], [vi (w : Int)])) (S' := MS I J cc ss) 1 rfl ?_
  refine ev_if (c := .lt) (off := 11) rfl (by decide) (fun (g5 : (w : Int) < 0) => False.elim (by omega)) (fun (g5 : ¬ ((w : Int) < 0)) => ?_)
  show Ev X k_X3_cellOf (30, [some (vr 9), some (vi (p : Int)), some (vi (s : Int)), some (vi (w : Int))], []) (MS I J cc ss) _
  refine ev_n (fr' := (35, [some (vr 9), some (vi (p : Int)), some (vi (s : Int)), some (vi (w : Int))], [vi (I 9 0), vi (w : Int)])) (S' := MS I J cc ss) 3 rfl ?_
  refine ev_eqi (hI.1) ?_
  show Ev X k_X3_cellOf (35, [some (vr 9), some (vi (p : Int)), some (vi (s : Int)), some (vi (w : Int))], [vi 3, vi (w : Int)]) (MS I J cc ss) _
  refine ev_ic (c := .lt) (off := 5) rfl (by decide) (fun (g6 : (w : Int) < 3) => ?_) (fun (g6 : ¬ ((w : Int) < 3)) => False.elim (by omega))
  show Ev X k_X3_cellOf (40, [some (vr 9), some (vi (p : Int)), some (vi (s : Int)), some (vi (w : Int))], []) (MS I J cc ss) _
  refine ev_n (fr' := (43, [some (vr 9), some (vi (p : Int)), some (vi (s : Int)), some (vi (w : Int))], [vi 6, vi (p : Int)])) (S' := MS I J cc ss) 2 rfl ?_
  refine ev_mul (z := 6 * (p : Int)) rfl (by omega) (by omega) (by omega) ?_
  show Ev X k_X3_cellOf (44, [some (vr 9), some (vi (p : Int)), some (vi (s : Int)), some (vi (w : Int))], [vi (6 * (p : Int))]) (MS I J cc ss) _
  refine ev_n (fr' := (45, [some (vr 9), some (vi (p : Int)), some (vi (s : Int)), some (vi (w : Int))], [vi (s : Int), vi (6 * (p : Int))])) (S' := MS I J cc ss) 1 rfl ?_
  refine ev_add (z := 6 * (p : Int) + (s : Int)) rfl (by omega) (by omega) (by omega) ?_
  show Ev X k_X3_cellOf (46, [some (vr 9), some (vi (p : Int)), some (vi (s : Int)), some (vi (w : Int))], [vi (6 * (p : Int) + (s : Int))]) (MS I J cc ss) _
  refine ev_n (fr' := (50, [some (vr 9), some (vi (p : Int)), some (vi (s : Int)), some (vi (w : Int))], [vi (I 9 0), vi (6 * (p : Int) + (s : Int))])) (S' := MS I J cc ss) 2 rfl ?_
  refine ev_eqi (hI.1) ?_
  show Ev X k_X3_cellOf (50, [some (vr 9), some (vi (p : Int)), some (vi (s : Int)), some (vi (w : Int))], [vi 3, vi (6 * (p : Int) + (s : Int))]) (MS I J cc ss) _
  refine ev_mul (z := 18 * (p : Int) + 3 * (s : Int)) rfl (by omega) (by omega) (by omega) ?_
  show Ev X k_X3_cellOf (51, [some (vr 9), some (vi (p : Int)), some (vi (s : Int)), some (vi (w : Int))], [vi (18 * (p : Int) + 3 * (s : Int))]) (MS I J cc ss) _
  refine ev_n (fr' := (52, [some (vr 9), some (vi (p : Int)), some (vi (s : Int)), some (vi (w : Int))], [vi (w : Int), vi (18 * (p : Int) + 3 * (s : Int))])) (S' := MS I J cc ss) 1 rfl ?_
  refine ev_add (z := 18 * (p : Int) + 3 * (s : Int) + (w : Int)) rfl (by omega) (by omega) (by omega) ?_
  show Ev X k_X3_cellOf (53, [some (vr 9), some (vi (p : Int)), some (vi (s : Int)), some (vi (w : Int))], [vi (18 * (p : Int) + 3 * (s : Int) + (w : Int))]) (MS I J cc ss) _
  refine ev_r rfl rfl rfl ?_
  first | exact ⟨rfl, rfl⟩ | exact ⟨congrArg (fun z => Sum.inl (some (vi z))) (by first | rfl | (rw [if_pos (by omega)]) | (rw [if_neg (by omega)]) | (simp only [*]; done) | omega), rfl⟩
theorem sp_number_9 (X : AX) (I J : Nat → Nat → Int) (cc ss : Nat) {g : F1} (p : Nat) (s : Nat) (w : Nat) (hI : IRep I J 9 g) (hwi : WI g) (hp : (p : Int) < g 308) (hs : (s : Int) < g (19 * p + 309)) (hq : w < 3) : Ev X k_X3_number (0, [some (vr 9), some (vi (p : Int)), some (vi (s : Int)), some (vi (w : Int)), none], []) (MS I J cc ss) (fun o T => o = .inl (some (vi (g (19 * p + 3 * s + w + 310)))) ∧ T = MS I J cc ss) := by
  have hw2 := hwi.2.1
  have hw3 := (hwi.2.2 p hp).2.1
  refine ev_n (fr' := (4, [some (vr 9), some (vi (p : Int)), some (vi (s : Int)), some (vi (w : Int)), none], [vi (w : Int), vi (s : Int), vi (p : Int), vr 9])) (S' := MS I J cc ss) 4 rfl ?_
  refine ev_cv rfl rfl rfl ⟨Nat.le_of_ble_eq_true rfl, Nat.le_of_ble_eq_true rfl⟩ (sp_cellOf_9 X _ _ _ _ p s w hI hwi (by omega) (by omega) (by omega)) ?_
  show Ev X k_X3_number (7, [some (vr 9), some (vi (p : Int)), some (vi (s : Int)), some (vi (w : Int)), none], [vi (18 * (p : Int) + 3 * (s : Int) + (w : Int))]) (MS I J cc ss) _
  refine ev_n (fr' := (19, [some (vr 9), some (vi (p : Int)), some (vi (s : Int)), some (vi (w : Int)), some (vi (18 * (p : Int) + 3 * (s : Int) + (w : Int)))], [vi 143, vi 0, vi (18 * (p : Int) + 3 * (s : Int) + (w : Int))])) (S' := MS I J cc ss) 8 rfl ?_
  refine ev_cv rfl rfl rfl ⟨Nat.le_of_ble_eq_true rfl, Nat.le_of_ble_eq_true rfl⟩ (sp_within X _ (18 * (p : Int) + 3 * (s : Int) + (w : Int)) 0 143 ) ?_
  show Ev X k_X3_number (22, [some (vr 9), some (vi (p : Int)), some (vi (s : Int)), some (vi (w : Int)), some (vi (18 * (p : Int) + 3 * (s : Int) + (w : Int)))], [vi (if 0 ≤ 18 * (p : Int) + 3 * (s : Int) + (w : Int) ∧ 18 * (p : Int) + 3 * (s : Int) + (w : Int) ≤ 143 then 1 else 0)]) (MS I J cc ss) _
  refine ev_beq _ rfl (by decide) (fun (g1 : ¬ (0 ≤ 18 * (p : Int) + 3 * (s : Int) + (w : Int) ∧ 18 * (p : Int) + 3 * (s : Int) + (w : Int) ≤ 143)) => False.elim (by omega)) (fun (g1 : 0 ≤ 18 * (p : Int) + 3 * (s : Int) + (w : Int) ∧ 18 * (p : Int) + 3 * (s : Int) + (w : Int) ≤ 143) => ?_)
  show Ev X k_X3_number (25, [some (vr 9), some (vi (p : Int)), some (vi (s : Int)), some (vi (w : Int)), some (vi (18 * (p : Int) + 3 * (s : Int) + (w : Int)))], []) (MS I J cc ss) _
  refine ev_n (fr' := (31, [some (vr 9), some (vi (p : Int)), some (vi (s : Int)), some (vi (w : Int)), some (vi (18 * (p : Int) + 3 * (s : Int) + (w : Int)))], [vi (18 * (p : Int) + 3 * (s : Int) + (w : Int)), vr 12])) (S' := MS I J cc ss) 3 rfl ?_
  refine ev_iaN (j := 18 * p + 3 * s + w) (z := (g (19 * p + 3 * s + w + 310))) rfl rfl (by omega) (by omega) ((hI.2.2 _ hp).2.2 _ _ hs hq) ?_
  show Ev X k_X3_number (32, [some (vr 9), some (vi (p : Int)), some (vi (s : Int)), some (vi (w : Int)), some (vi (18 * (p : Int) + 3 * (s : Int) + (w : Int)))], [vi (g (19 * p + 3 * s + w + 310))]) (MS I J cc ss) _
  refine ev_n (fr' := (36, [some (vr 9), some (vi (p : Int)), some (vi (s : Int)), some (vi (w : Int)), some (vi (18 * (p : Int) + 3 * (s : Int) + (w : Int)))], [vi (g (19 * p + 3 * s + w + 310))])) (S' := MS I J cc ss) 1 rfl ?_
  refine ev_r rfl rfl rfl ?_
  first | exact ⟨rfl, rfl⟩ | exact ⟨congrArg (fun z => Sum.inl (some (vi z))) (by first | rfl | (rw [if_pos (by omega)]) | (rw [if_neg (by omega)]) | (simp only [*]; done) | omega), rfl⟩
theorem sp_rowCount_118 (X : AX) (I J : Nat → Nat → Int) (cc ss : Nat) {d : F1} (dP : PRep I J 118 d) : Ev X k_X3_rowCount (0, [some (vr 118)], []) (MS I J cc ss) (fun o T => o = .inl (some (vi (d 11))) ∧ T = MS I J cc ss) := by
  refine ev_n (fr' := (4, [some (vr 118)], [vi (I 118 4)])) (S' := MS I J cc ss) 2 rfl ?_
  refine ev_eqi (dP.2.1) ?_
  show Ev X k_X3_rowCount (4, [some (vr 118)], [vi (d 11)]) (MS I J cc ss) _
  refine ev_r rfl rfl rfl ?_
  first | exact ⟨rfl, rfl⟩ | exact ⟨congrArg (fun z => Sum.inl (some (vi z))) (by first | rfl | (rw [if_pos (by omega)]) | (rw [if_neg (by omega)]) | (simp only [*]; done) | omega), rfl⟩
theorem sp_hasRow_118 (X : AX) (I J : Nat → Nat → Int) (cc ss : Nat) {d : F1} (z : Int) (dP : PRep I J 118 d) : Ev X k_X3_hasRow (0, [some (vr 118), some (vi z)], []) (MS I J cc ss) (fun o T => o = .inl (some (vi (if 0 ≤ z ∧ z < d 11 then 1 else 0))) ∧ T = MS I J cc ss) := by
  refine ev_n (fr' := (1, [some (vr 118), some (vi z)], [vi z])) (S' := MS I J cc ss) 1 rfl ?_
  refine ev_if (c := .lt) (off := 15) rfl (by decide) (fun (g1 : z < 0) => ?_) (fun (g1 : ¬ (z < 0)) => ?_)
  · show Ev X k_X3_hasRow (16, [some (vr 118), some (vi z)], []) (MS I J cc ss) _
    refine ev_n (fr' := (17, [some (vr 118), some (vi z)], [vi 0])) (S' := MS I J cc ss) 1 rfl ?_
    refine ev_r rfl rfl rfl ?_
    first | exact ⟨rfl, rfl⟩ | exact ⟨congrArg (fun z => Sum.inl (some (vi z))) (by first | rfl | (rw [if_pos (by omega)]) | (rw [if_neg (by omega)]) | (simp only [*]; done) | omega), rfl⟩
  · show Ev X k_X3_hasRow (4, [some (vr 118), some (vi z)], []) (MS I J cc ss) _
    refine ev_n (fr' := (9, [some (vr 118), some (vi z)], [vi (I 118 4), vi z])) (S' := MS I J cc ss) 3 rfl ?_
    refine ev_eqi (dP.2.1) ?_
    show Ev X k_X3_hasRow (9, [some (vr 118), some (vi z)], [vi (d 11), vi z]) (MS I J cc ss) _
    refine ev_ic (c := .ge) (off := 7) rfl (by decide) (fun (g2 : (d 11) ≤ z) => ?_) (fun (g2 : ¬ ((d 11) ≤ z)) => ?_)
    · show Ev X k_X3_hasRow (16, [some (vr 118), some (vi z)], []) (MS I J cc ss) _
      refine ev_n (fr' := (17, [some (vr 118), some (vi z)], [vi 0])) (S' := MS I J cc ss) 1 rfl ?_
      refine ev_r rfl rfl rfl ?_
      first | exact ⟨rfl, rfl⟩ | exact ⟨congrArg (fun z => Sum.inl (some (vi z))) (by first | rfl | (rw [if_pos (by omega)]) | (rw [if_neg (by omega)]) | (simp only [*]; done) | omega), rfl⟩
    · show Ev X k_X3_hasRow (12, [some (vr 118), some (vi z)], []) (MS I J cc ss) _
      refine ev_n (fr' := (17, [some (vr 118), some (vi z)], [vi 1])) (S' := MS I J cc ss) 2 rfl ?_
      refine ev_r rfl rfl rfl ?_
      first | exact ⟨rfl, rfl⟩ | exact ⟨congrArg (fun z => Sum.inl (some (vi z))) (by first | rfl | (rw [if_pos (by omega)]) | (rw [if_neg (by omega)]) | (simp only [*]; done) | omega), rfl⟩
theorem sp_rIsFull_118 (X : AX) (I J : Nat → Nat → Int) (cc ss : Nat) {d : F1} (dP : PRep I J 118 d) : Ev X k_X3_isFull (0, [some (vr 118)], []) (MS I J cc ss) (fun o T => o = .inl (some (vi (if 8 ≤ d 11 then 1 else 0))) ∧ T = MS I J cc ss) := by
  refine ev_n (fr' := (4, [some (vr 118)], [vi (I 118 4)])) (S' := MS I J cc ss) 2 rfl ?_
  refine ev_eqi (dP.2.1) ?_
  show Ev X k_X3_isFull (4, [some (vr 118)], [vi (d 11)]) (MS I J cc ss) _
  refine ev_n (fr' := (6, [some (vr 118)], [vi 8, vi (d 11)])) (S' := MS I J cc ss) 1 rfl ?_
  refine ev_ic (c := .lt) (off := 7) rfl (by decide) (fun (g1 : (d 11) < 8) => ?_) (fun (g1 : ¬ ((d 11) < 8)) => ?_)
  · show Ev X k_X3_isFull (13, [some (vr 118)], []) (MS I J cc ss) _
    refine ev_n (fr' := (14, [some (vr 118)], [vi 0])) (S' := MS I J cc ss) 1 rfl ?_
    refine ev_r rfl rfl rfl ?_
    first | exact ⟨rfl, rfl⟩ | exact ⟨congrArg (fun z => Sum.inl (some (vi z))) (by first | rfl | (rw [if_pos (by omega)]) | (rw [if_neg (by omega)]) | (simp only [*]; done) | omega), rfl⟩
  · show Ev X k_X3_isFull (9, [some (vr 118)], []) (MS I J cc ss) _
    refine ev_n (fr' := (14, [some (vr 118)], [vi 1])) (S' := MS I J cc ss) 2 rfl ?_
    refine ev_r rfl rfl rfl ?_
    first | exact ⟨rfl, rfl⟩ | exact ⟨congrArg (fun z => Sum.inl (some (vi z))) (by first | rfl | (rw [if_pos (by omega)]) | (rw [if_neg (by omega)]) | (simp only [*]; done) | omega), rfl⟩
theorem sp_itemsOf_118 (X : AX) (I J : Nat → Nat → Int) (cc ss : Nat) {d : F1} (p : Nat) (dP : PRep I J 118 d) (hwp : WP d) (hp : (p : Int) < d 11) : Ev X k_X3_itemsOf (0, [some (vr 118), some (vi (p : Int))], []) (MS I J cc ss) (fun o T => o = .inl (some (vi (d (37 * p + 12)))) ∧ T = MS I J cc ss) := by
  have hw2 := hwp.2.1
  refine ev_n (fr' := (2, [some (vr 118), some (vi (p : Int))], [vi (p : Int), vr 118])) (S' := MS I J cc ss) 2 rfl ?_
  refine ev_cv rfl rfl rfl ⟨Nat.le_of_ble_eq_true rfl, Nat.le_of_ble_eq_true rfl⟩ (sp_hasRow_118 X _ _ _ _ (p : Int) dP) ?_
  show Ev X k_X3_itemsOf (5, [some (vr 118), some (vi (p : Int))], [vi (if 0 ≤ (p : Int) ∧ (p : Int) < d 11 then 1 else 0)]) (MS I J cc ss) _
  refine ev_beq _ rfl (by decide) (fun (g1 : ¬ (0 ≤ (p : Int) ∧ (p : Int) < d 11)) => False.elim (by omega)) (fun (g1 : 0 ≤ (p : Int) ∧ (p : Int) < d 11) => ?_)
  show Ev X k_X3_itemsOf (8, [some (vr 118), some (vi (p : Int))], []) (MS I J cc ss) _
  refine ev_n (fr' := (13, [some (vr 118), some (vi (p : Int))], [vi (p : Int), vr 120])) (S' := MS I J cc ss) 3 rfl ?_
  refine ev_iaN (j := p) (z := (d (37 * p + 12))) rfl rfl (by omega) (by omega) ((dP.2.2 _ (by omega)).2.1) ?_
  show Ev X k_X3_itemsOf (14, [some (vr 118), some (vi (p : Int))], [vi (d (37 * p + 12))]) (MS I J cc ss) _
  refine ev_n (fr' := (18, [some (vr 118), some (vi (p : Int))], [vi (d (37 * p + 12))])) (S' := MS I J cc ss) 1 rfl ?_
  refine ev_r rfl rfl rfl ?_
  first | exact ⟨rfl, rfl⟩ | exact ⟨congrArg (fun z => Sum.inl (some (vi z))) (by first | rfl | (rw [if_pos (by omega)]) | (rw [if_neg (by omega)]) | (simp only [*]; done) | omega), rfl⟩
theorem sp_isRowFull_118 (X : AX) (I J : Nat → Nat → Int) (cc ss : Nat) {d : F1} (p : Nat) (dP : PRep I J 118 d) (hwp : WP d) (hp : (p : Int) < d 11) : Ev X k_X3_isRowFull (0, [some (vr 118), some (vi (p : Int))], []) (MS I J cc ss) (fun o T => o = .inl (some (vi (if 6 ≤ d (37 * p + 12) then 1 else 0))) ∧ T = MS I J cc ss) := by
  refine ev_n (fr' := (2, [some (vr 118), some (vi (p : Int))], [vi (p : Int), vr 118])) (S' := MS I J cc ss) 2 rfl ?_
  refine ev_cv rfl rfl rfl ⟨Nat.le_of_ble_eq_true rfl, Nat.le_of_ble_eq_true rfl⟩ (sp_itemsOf_118 X _ _ _ _ p dP hwp (by omega)) ?_
  show Ev X k_X3_isRowFull (5, [some (vr 118), some (vi (p : Int))], [vi (d (37 * p + 12))]) (MS I J cc ss) _
  refine ev_n (fr' := (7, [some (vr 118), some (vi (p : Int))], [vi 6, vi (d (37 * p + 12))])) (S' := MS I J cc ss) 1 rfl ?_
  refine ev_ic (c := .lt) (off := 7) rfl (by decide) (fun (g1 : (d (37 * p + 12)) < 6) => ?_) (fun (g1 : ¬ ((d (37 * p + 12)) < 6)) => ?_)
  · show Ev X k_X3_isRowFull (14, [some (vr 118), some (vi (p : Int))], []) (MS I J cc ss) _
    refine ev_n (fr' := (15, [some (vr 118), some (vi (p : Int))], [vi 0])) (S' := MS I J cc ss) 1 rfl ?_
    refine ev_r rfl rfl rfl ?_
    first | exact ⟨rfl, rfl⟩ | exact ⟨congrArg (fun z => Sum.inl (some (vi z))) (by first | rfl | (rw [if_pos (by omega)]) | (rw [if_neg (by omega)]) | (simp only [*]; done) | omega), rfl⟩
  · show Ev X k_X3_isRowFull (10, [some (vr 118), some (vi (p : Int))], []) (MS I J cc ss) _
    refine ev_n (fr' := (15, [some (vr 118), some (vi (p : Int))], [vi 1])) (S' := MS I J cc ss) 2 rfl ?_
    refine ev_r rfl rfl rfl ?_
    first | exact ⟨rfl, rfl⟩ | exact ⟨congrArg (fun z => Sum.inl (some (vi z))) (by first | rfl | (rw [if_pos (by omega)]) | (rw [if_neg (by omega)]) | (simp only [*]; done) | omega), rfl⟩
theorem sp_hasItem_118 (X : AX) (I J : Nat → Nat → Int) (cc ss : Nat) {d : F1} (y : Int) (z : Int) (dP : PRep I J 118 d) (hwp : WP d) : Ev X k_X3_hasItem (0, [some (vr 118), some (vi y), some (vi z)], []) (MS I J cc ss) (fun o T => o = .inl (some (vi (if 0 ≤ y ∧ y < d 11 ∧ 0 ≤ z ∧ z < d (37 * y.toNat + 12) then 1 else 0))) ∧ T = MS I J cc ss) := by
  have hw2 := hwp.2.1
  refine ev_n (fr' := (2, [some (vr 118), some (vi y), some (vi z)], [vi y, vr 118])) (S' := MS I J cc ss) 2 rfl ?_
  refine ev_cv rfl rfl rfl ⟨Nat.le_of_ble_eq_true rfl, Nat.le_of_ble_eq_true rfl⟩ (sp_hasRow_118 X _ _ _ _ y dP) ?_
  show Ev X k_X3_hasItem (5, [some (vr 118), some (vi y), some (vi z)], [vi (if 0 ≤ y ∧ y < d 11 then 1 else 0)]) (MS I J cc ss) _
  refine ev_beq _ rfl (by decide) (fun (g1 : ¬ (0 ≤ y ∧ y < d 11)) => ?_) (fun (g1 : 0 ≤ y ∧ y < d 11) => ?_)
  · show Ev X k_X3_hasItem (26, [some (vr 118), some (vi y), some (vi z)], []) (MS I J cc ss) _
    refine ev_n (fr' := (27, [some (vr 118), some (vi y), some (vi z)], [vi 0])) (S' := MS I J cc ss) 1 rfl ?_
    refine ev_r rfl rfl rfl ?_
    first | exact ⟨rfl, rfl⟩ | exact ⟨congrArg (fun z => Sum.inl (some (vi z))) (by first | rfl | (rw [if_pos (by omega)]) | (rw [if_neg (by omega)]) | (simp only [*]; done) | omega), rfl⟩
  · show Ev X k_X3_hasItem (8, [some (vr 118), some (vi y), some (vi z)], []) (MS I J cc ss) _
    refine ev_n (fr' := (9, [some (vr 118), some (vi y), some (vi z)], [vi z])) (S' := MS I J cc ss) 1 rfl ?_
    refine ev_if (c := .lt) (off := 17) rfl (by decide) (fun (g2 : z < 0) => ?_) (fun (g2 : ¬ (z < 0)) => ?_)
    · show Ev X k_X3_hasItem (26, [some (vr 118), some (vi y), some (vi z)], []) (MS I J cc ss) _
      refine ev_n (fr' := (27, [some (vr 118), some (vi y), some (vi z)], [vi 0])) (S' := MS I J cc ss) 1 rfl ?_
      refine ev_r rfl rfl rfl ?_
      first | exact ⟨rfl, rfl⟩ | exact ⟨congrArg (fun z => Sum.inl (some (vi z))) (by first | rfl | (rw [if_pos (by omega)]) | (rw [if_neg (by omega)]) | (simp only [*]; done) | omega), rfl⟩
    · show Ev X k_X3_hasItem (12, [some (vr 118), some (vi y), some (vi z)], []) (MS I J cc ss) _
      refine ev_n (fr' := (18, [some (vr 118), some (vi y), some (vi z)], [vi y, vr 120, vi z])) (S' := MS I J cc ss) 4 rfl ?_
      refine ev_iaN (j := (y).toNat) (z := (d (37 * ((y).toNat) + 12))) rfl rfl (by omega) (by omega) ((dP.2.2 _ (by omega)).2.1) ?_
      show Ev X k_X3_hasItem (19, [some (vr 118), some (vi y), some (vi z)], [vi (d (37 * ((y).toNat) + 12)), vi z]) (MS I J cc ss) _
      refine ev_ic (c := .ge) (off := 7) rfl (by decide) (fun (g3 : (d (37 * ((y).toNat) + 12)) ≤ z) => ?_) (fun (g3 : ¬ ((d (37 * ((y).toNat) + 12)) ≤ z)) => ?_)
      · show Ev X k_X3_hasItem (26, [some (vr 118), some (vi y), some (vi z)], []) (MS I J cc ss) _
        refine ev_n (fr' := (27, [some (vr 118), some (vi y), some (vi z)], [vi 0])) (S' := MS I J cc ss) 1 rfl ?_
        refine ev_r rfl rfl rfl ?_
        first | exact ⟨rfl, rfl⟩ | exact ⟨congrArg (fun z => Sum.inl (some (vi z))) (by first | rfl | (rw [if_pos (by omega)]) | (rw [if_neg (by omega)]) | (simp only [*]; done) | omega), rfl⟩
      · show Ev X k_X3_hasItem (22, [some (vr 118), some (vi y), some (vi z)], []) (MS I J cc ss) _
        refine ev_n (fr' := (27, [some (vr 118), some (vi y), some (vi z)], [vi 1])) (S' := MS I J cc ss) 2 rfl ?_
        refine ev_r rfl rfl rfl ?_
        first | exact ⟨rfl, rfl⟩ | exact ⟨congrArg (fun z => Sum.inl (some (vi z))) (by first | rfl | (rw [if_pos (by omega)]) | (rw [if_neg (by omega)]) | (simp only [*]; done) | omega), rfl⟩
theorem sp_cellOf_118 (X : AX) (I J : Nat → Nat → Int) (cc ss : Nat) {d : F1} (p : Nat) (s : Nat) (w : Nat) (dP : PRep I J 118 d) (hwp : WP d) (hp : (p : Int) < d 11) (hs : (s : Int) < d (37 * p + 12)) (hq : w < 6) : Ev X k_X3_cellOf (0, [some (vr 118), some (vi (p : Int)), some (vi (s : Int)), some (vi (w : Int))], []) (MS I J cc ss) (fun o T => o = .inl (some (vi (36 * (p : Int) + 6 * (s : Int) + (w : Int)))) ∧ T = MS I J cc ss) := by
  have hw2 := hwp.2.1
  have hw3 := (hwp.2.2 p hp).2.1
  refine ev_n (fr' := (1, [some (vr 118), some (vi (p : Int)), some (vi (s : Int)), some (vi (w : Int))], [vi (p : Int)])) (S' := MS I J cc ss) 1 rfl ?_
  refine ev_if (c := .lt) (off := 37) rfl (by decide) (fun (g1 : (p : Int) < 0) => False.elim (by omega)) (fun (g1 : ¬ ((p : Int) < 0)) => ?_)
  show Ev X k_X3_cellOf (4, [some (vr 118), some (vi (p : Int)), some (vi (s : Int)), some (vi (w : Int))], []) (MS I J cc ss) _
  refine ev_n (fr' := (9, [some (vr 118), some (vi (p : Int)), some (vi (s : Int)), some (vi (w : Int))], [vi (I 118 4), vi (p : Int)])) (S' := MS I J cc ss) 3 rfl ?_
  refine ev_eqi (dP.2.1) ?_
  show Ev X k_X3_cellOf (9, [some (vr 118), some (vi (p : Int)), some (vi (s : Int)), some (vi (w : Int))], [vi (d 11), vi (p : Int)]) (MS I J cc ss) _
  refine ev_ic (c := .ge) (off := 29) rfl (by decide) (fun (g2 : (d 11) ≤ (p : Int)) => False.elim (by omega)) (fun (g2 : ¬ ((d 11) ≤ (p : Int))) => ?_)
  show Ev X k_X3_cellOf (12, [some (vr 118), some (vi (p : Int)), some (vi (s : Int)), some (vi (w : Int))], []) (MS I J cc ss) _
  refine ev_n (fr' := (13, [some (vr 118), some (vi (p : Int)), some (vi (s : Int)), some (vi (w : Int))], [vi (s : Int)])) (S' := MS I J cc ss) 1 rfl ?_
  refine ev_if (c := .lt) (off := 25) rfl (by decide) (fun (g3 : (s : Int) < 0) => False.elim (by omega)) (fun (g3 : ¬ ((s : Int) < 0)) => ?_)
  show Ev X k_X3_cellOf (16, [some (vr 118), some (vi (p : Int)), some (vi (s : Int)), some (vi (w : Int))], []) (MS I J cc ss) _
  refine ev_n (fr' := (22, [some (vr 118), some (vi (p : Int)), some (vi (s : Int)), some (vi (w : Int))], [vi (p : Int), vr 120, vi (s : Int)])) (S' := MS I J cc ss) 4 rfl ?_
  refine ev_iaN (j := p) (z := (d (37 * p + 12))) rfl rfl (by omega) (by omega) ((dP.2.2 _ (by omega)).2.1) ?_
  show Ev X k_X3_cellOf (23, [some (vr 118), some (vi (p : Int)), some (vi (s : Int)), some (vi (w : Int))], [vi (d (37 * p + 12)), vi (s : Int)]) (MS I J cc ss) _
  refine ev_ic (c := .ge) (off := 15) rfl (by decide) (fun (g4 : (d (37 * p + 12)) ≤ (s : Int)) => False.elim (by omega)) (fun (g4 : ¬ ((d (37 * p + 12)) ≤ (s : Int))) => ?_)
  show Ev X k_X3_cellOf (26, [some (vr 118), some (vi (p : Int)), some (vi (s : Int)), some (vi (w : Int))], []) (MS I J cc ss) _
  refine ev_n (fr' := (27, [some (vr 118), some (vi (p : Int)), some (vi (s : Int)), some (vi (w : Int))], [vi (w : Int)])) (S' := MS I J cc ss) 1 rfl ?_
  refine ev_if (c := .lt) (off := 11) rfl (by decide) (fun (g5 : (w : Int) < 0) => False.elim (by omega)) (fun (g5 : ¬ ((w : Int) < 0)) => ?_)
  show Ev X k_X3_cellOf (30, [some (vr 118), some (vi (p : Int)), some (vi (s : Int)), some (vi (w : Int))], []) (MS I J cc ss) _
  refine ev_n (fr' := (35, [some (vr 118), some (vi (p : Int)), some (vi (s : Int)), some (vi (w : Int))], [vi (I 118 0), vi (w : Int)])) (S' := MS I J cc ss) 3 rfl ?_
  refine ev_eqi (dP.1) ?_
  show Ev X k_X3_cellOf (35, [some (vr 118), some (vi (p : Int)), some (vi (s : Int)), some (vi (w : Int))], [vi 6, vi (w : Int)]) (MS I J cc ss) _
  refine ev_ic (c := .lt) (off := 5) rfl (by decide) (fun (g6 : (w : Int) < 6) => ?_) (fun (g6 : ¬ ((w : Int) < 6)) => False.elim (by omega))
  show Ev X k_X3_cellOf (40, [some (vr 118), some (vi (p : Int)), some (vi (s : Int)), some (vi (w : Int))], []) (MS I J cc ss) _
  refine ev_n (fr' := (43, [some (vr 118), some (vi (p : Int)), some (vi (s : Int)), some (vi (w : Int))], [vi 6, vi (p : Int)])) (S' := MS I J cc ss) 2 rfl ?_
  refine ev_mul (z := 6 * (p : Int)) rfl (by omega) (by omega) (by omega) ?_
  show Ev X k_X3_cellOf (44, [some (vr 118), some (vi (p : Int)), some (vi (s : Int)), some (vi (w : Int))], [vi (6 * (p : Int))]) (MS I J cc ss) _
  refine ev_n (fr' := (45, [some (vr 118), some (vi (p : Int)), some (vi (s : Int)), some (vi (w : Int))], [vi (s : Int), vi (6 * (p : Int))])) (S' := MS I J cc ss) 1 rfl ?_
  refine ev_add (z := 6 * (p : Int) + (s : Int)) rfl (by omega) (by omega) (by omega) ?_
  show Ev X k_X3_cellOf (46, [some (vr 118), some (vi (p : Int)), some (vi (s : Int)), some (vi (w : Int))], [vi (6 * (p : Int) + (s : Int))]) (MS I J cc ss) _
  refine ev_n (fr' := (50, [some (vr 118), some (vi (p : Int)), some (vi (s : Int)), some (vi (w : Int))], [vi (I 118 0), vi (6 * (p : Int) + (s : Int))])) (S' := MS I J cc ss) 2 rfl ?_
  refine ev_eqi (dP.1) ?_
  show Ev X k_X3_cellOf (50, [some (vr 118), some (vi (p : Int)), some (vi (s : Int)), some (vi (w : Int))], [vi 6, vi (6 * (p : Int) + (s : Int))]) (MS I J cc ss) _
  refine ev_mul (z := 36 * (p : Int) + 6 * (s : Int)) rfl (by omega) (by omega) (by omega) ?_
  show Ev X k_X3_cellOf (51, [some (vr 118), some (vi (p : Int)), some (vi (s : Int)), some (vi (w : Int))], [vi (36 * (p : Int) + 6 * (s : Int))]) (MS I J cc ss) _
  refine ev_n (fr' := (52, [some (vr 118), some (vi (p : Int)), some (vi (s : Int)), some (vi (w : Int))], [vi (w : Int), vi (36 * (p : Int) + 6 * (s : Int))])) (S' := MS I J cc ss) 1 rfl ?_
  refine ev_add (z := 36 * (p : Int) + 6 * (s : Int) + (w : Int)) rfl (by omega) (by omega) (by omega) ?_
  show Ev X k_X3_cellOf (53, [some (vr 118), some (vi (p : Int)), some (vi (s : Int)), some (vi (w : Int))], [vi (36 * (p : Int) + 6 * (s : Int) + (w : Int))]) (MS I J cc ss) _
  refine ev_r rfl rfl rfl ?_
  first | exact ⟨rfl, rfl⟩ | exact ⟨congrArg (fun z => Sum.inl (some (vi z))) (by first | rfl | (rw [if_pos (by omega)]) | (rw [if_neg (by omega)]) | (simp only [*]; done) | omega), rfl⟩
theorem sp_number_118 (X : AX) (I J : Nat → Nat → Int) (cc ss : Nat) {d : F1} (p : Nat) (s : Nat) (w : Nat) (dP : PRep I J 118 d) (hwp : WP d) (hp : (p : Int) < d 11) (hs : (s : Int) < d (37 * p + 12)) (hq : w < 6) : Ev X k_X3_number (0, [some (vr 118), some (vi (p : Int)), some (vi (s : Int)), some (vi (w : Int)), none], []) (MS I J cc ss) (fun o T => o = .inl (some (vi (d (37 * p + 6 * s + w + 13)))) ∧ T = MS I J cc ss) := by
  have hw2 := hwp.2.1
  have hw3 := (hwp.2.2 p hp).2.1
  refine ev_n (fr' := (4, [some (vr 118), some (vi (p : Int)), some (vi (s : Int)), some (vi (w : Int)), none], [vi (w : Int), vi (s : Int), vi (p : Int), vr 118])) (S' := MS I J cc ss) 4 rfl ?_
  refine ev_cv rfl rfl rfl ⟨Nat.le_of_ble_eq_true rfl, Nat.le_of_ble_eq_true rfl⟩ (sp_cellOf_118 X _ _ _ _ p s w dP hwp (by omega) (by omega) (by omega)) ?_
  show Ev X k_X3_number (7, [some (vr 118), some (vi (p : Int)), some (vi (s : Int)), some (vi (w : Int)), none], [vi (36 * (p : Int) + 6 * (s : Int) + (w : Int))]) (MS I J cc ss) _
  refine ev_n (fr' := (19, [some (vr 118), some (vi (p : Int)), some (vi (s : Int)), some (vi (w : Int)), some (vi (36 * (p : Int) + 6 * (s : Int) + (w : Int)))], [vi 287, vi 0, vi (36 * (p : Int) + 6 * (s : Int) + (w : Int))])) (S' := MS I J cc ss) 8 rfl ?_
  refine ev_cv rfl rfl rfl ⟨Nat.le_of_ble_eq_true rfl, Nat.le_of_ble_eq_true rfl⟩ (sp_within X _ (36 * (p : Int) + 6 * (s : Int) + (w : Int)) 0 287 ) ?_
  show Ev X k_X3_number (22, [some (vr 118), some (vi (p : Int)), some (vi (s : Int)), some (vi (w : Int)), some (vi (36 * (p : Int) + 6 * (s : Int) + (w : Int)))], [vi (if 0 ≤ 36 * (p : Int) + 6 * (s : Int) + (w : Int) ∧ 36 * (p : Int) + 6 * (s : Int) + (w : Int) ≤ 287 then 1 else 0)]) (MS I J cc ss) _
  refine ev_beq _ rfl (by decide) (fun (g1 : ¬ (0 ≤ 36 * (p : Int) + 6 * (s : Int) + (w : Int) ∧ 36 * (p : Int) + 6 * (s : Int) + (w : Int) ≤ 287)) => False.elim (by omega)) (fun (g1 : 0 ≤ 36 * (p : Int) + 6 * (s : Int) + (w : Int) ∧ 36 * (p : Int) + 6 * (s : Int) + (w : Int) ≤ 287) => ?_)
  show Ev X k_X3_number (25, [some (vr 118), some (vi (p : Int)), some (vi (s : Int)), some (vi (w : Int)), some (vi (36 * (p : Int) + 6 * (s : Int) + (w : Int)))], []) (MS I J cc ss) _
  refine ev_n (fr' := (31, [some (vr 118), some (vi (p : Int)), some (vi (s : Int)), some (vi (w : Int)), some (vi (36 * (p : Int) + 6 * (s : Int) + (w : Int)))], [vi (36 * (p : Int) + 6 * (s : Int) + (w : Int)), vr 121])) (S' := MS I J cc ss) 3 rfl ?_
  refine ev_iaN (j := 36 * p + 6 * s + w) (z := (d (37 * p + 6 * s + w + 13))) rfl rfl (by omega) (by omega) ((dP.2.2 _ hp).2.2 _ _ hs hq) ?_
  show Ev X k_X3_number (32, [some (vr 118), some (vi (p : Int)), some (vi (s : Int)), some (vi (w : Int)), some (vi (36 * (p : Int) + 6 * (s : Int) + (w : Int)))], [vi (d (37 * p + 6 * s + w + 13))]) (MS I J cc ss) _
  refine ev_n (fr' := (36, [some (vr 118), some (vi (p : Int)), some (vi (s : Int)), some (vi (w : Int)), some (vi (36 * (p : Int) + 6 * (s : Int) + (w : Int)))], [vi (d (37 * p + 6 * s + w + 13))])) (S' := MS I J cc ss) 1 rfl ?_
  refine ev_r rfl rfl rfl ?_
  first | exact ⟨rfl, rfl⟩ | exact ⟨congrArg (fun z => Sum.inl (some (vi z))) (by first | rfl | (rw [if_pos (by omega)]) | (rw [if_neg (by omega)]) | (simp only [*]; done) | omega), rfl⟩
theorem sp_rowCount_122 (X : AX) (I J : Nat → Nat → Int) (cc ss : Nat) {d : F1} (dI : IRep I J 122 d) : Ev X k_X3_rowCount (0, [some (vr 122)], []) (MS I J cc ss) (fun o T => o = .inl (some (vi (d 308))) ∧ T = MS I J cc ss) := by
  refine ev_n (fr' := (4, [some (vr 122)], [vi (I 122 4)])) (S' := MS I J cc ss) 2 rfl ?_
  refine ev_eqi (dI.2.1) ?_
  show Ev X k_X3_rowCount (4, [some (vr 122)], [vi (d 308)]) (MS I J cc ss) _
  refine ev_r rfl rfl rfl ?_
  first | exact ⟨rfl, rfl⟩ | exact ⟨congrArg (fun z => Sum.inl (some (vi z))) (by first | rfl | (rw [if_pos (by omega)]) | (rw [if_neg (by omega)]) | (simp only [*]; done) | omega), rfl⟩
theorem sp_hasRow_122 (X : AX) (I J : Nat → Nat → Int) (cc ss : Nat) {d : F1} (z : Int) (dI : IRep I J 122 d) : Ev X k_X3_hasRow (0, [some (vr 122), some (vi z)], []) (MS I J cc ss) (fun o T => o = .inl (some (vi (if 0 ≤ z ∧ z < d 308 then 1 else 0))) ∧ T = MS I J cc ss) := by
  refine ev_n (fr' := (1, [some (vr 122), some (vi z)], [vi z])) (S' := MS I J cc ss) 1 rfl ?_
  refine ev_if (c := .lt) (off := 15) rfl (by decide) (fun (g1 : z < 0) => ?_) (fun (g1 : ¬ (z < 0)) => ?_)
  · show Ev X k_X3_hasRow (16, [some (vr 122), some (vi z)], []) (MS I J cc ss) _
    refine ev_n (fr' := (17, [some (vr 122), some (vi z)], [vi 0])) (S' := MS I J cc ss) 1 rfl ?_
    refine ev_r rfl rfl rfl ?_
    first | exact ⟨rfl, rfl⟩ | exact ⟨congrArg (fun z => Sum.inl (some (vi z))) (by first | rfl | (rw [if_pos (by omega)]) | (rw [if_neg (by omega)]) | (simp only [*]; done) | omega), rfl⟩
  · show Ev X k_X3_hasRow (4, [some (vr 122), some (vi z)], []) (MS I J cc ss) _
    refine ev_n (fr' := (9, [some (vr 122), some (vi z)], [vi (I 122 4), vi z])) (S' := MS I J cc ss) 3 rfl ?_
    refine ev_eqi (dI.2.1) ?_
    show Ev X k_X3_hasRow (9, [some (vr 122), some (vi z)], [vi (d 308), vi z]) (MS I J cc ss) _
    refine ev_ic (c := .ge) (off := 7) rfl (by decide) (fun (g2 : (d 308) ≤ z) => ?_) (fun (g2 : ¬ ((d 308) ≤ z)) => ?_)
    · show Ev X k_X3_hasRow (16, [some (vr 122), some (vi z)], []) (MS I J cc ss) _
      refine ev_n (fr' := (17, [some (vr 122), some (vi z)], [vi 0])) (S' := MS I J cc ss) 1 rfl ?_
      refine ev_r rfl rfl rfl ?_
      first | exact ⟨rfl, rfl⟩ | exact ⟨congrArg (fun z => Sum.inl (some (vi z))) (by first | rfl | (rw [if_pos (by omega)]) | (rw [if_neg (by omega)]) | (simp only [*]; done) | omega), rfl⟩
    · show Ev X k_X3_hasRow (12, [some (vr 122), some (vi z)], []) (MS I J cc ss) _
      refine ev_n (fr' := (17, [some (vr 122), some (vi z)], [vi 1])) (S' := MS I J cc ss) 2 rfl ?_
      refine ev_r rfl rfl rfl ?_
      first | exact ⟨rfl, rfl⟩ | exact ⟨congrArg (fun z => Sum.inl (some (vi z))) (by first | rfl | (rw [if_pos (by omega)]) | (rw [if_neg (by omega)]) | (simp only [*]; done) | omega), rfl⟩
theorem sp_rIsFull_122 (X : AX) (I J : Nat → Nat → Int) (cc ss : Nat) {d : F1} (dI : IRep I J 122 d) : Ev X k_X3_isFull (0, [some (vr 122)], []) (MS I J cc ss) (fun o T => o = .inl (some (vi (if 8 ≤ d 308 then 1 else 0))) ∧ T = MS I J cc ss) := by
  refine ev_n (fr' := (4, [some (vr 122)], [vi (I 122 4)])) (S' := MS I J cc ss) 2 rfl ?_
  refine ev_eqi (dI.2.1) ?_
  show Ev X k_X3_isFull (4, [some (vr 122)], [vi (d 308)]) (MS I J cc ss) _
  refine ev_n (fr' := (6, [some (vr 122)], [vi 8, vi (d 308)])) (S' := MS I J cc ss) 1 rfl ?_
  refine ev_ic (c := .lt) (off := 7) rfl (by decide) (fun (g1 : (d 308) < 8) => ?_) (fun (g1 : ¬ ((d 308) < 8)) => ?_)
  · show Ev X k_X3_isFull (13, [some (vr 122)], []) (MS I J cc ss) _
    refine ev_n (fr' := (14, [some (vr 122)], [vi 0])) (S' := MS I J cc ss) 1 rfl ?_
    refine ev_r rfl rfl rfl ?_
    first | exact ⟨rfl, rfl⟩ | exact ⟨congrArg (fun z => Sum.inl (some (vi z))) (by first | rfl | (rw [if_pos (by omega)]) | (rw [if_neg (by omega)]) | (simp only [*]; done) | omega), rfl⟩
  · show Ev X k_X3_isFull (9, [some (vr 122)], []) (MS I J cc ss) _
    refine ev_n (fr' := (14, [some (vr 122)], [vi 1])) (S' := MS I J cc ss) 2 rfl ?_
    refine ev_r rfl rfl rfl ?_
    first | exact ⟨rfl, rfl⟩ | exact ⟨congrArg (fun z => Sum.inl (some (vi z))) (by first | rfl | (rw [if_pos (by omega)]) | (rw [if_neg (by omega)]) | (simp only [*]; done) | omega), rfl⟩
theorem sp_itemsOf_122 (X : AX) (I J : Nat → Nat → Int) (cc ss : Nat) {d : F1} (p : Nat) (dI : IRep I J 122 d) (hwi : WI d) (hp : (p : Int) < d 308) : Ev X k_X3_itemsOf (0, [some (vr 122), some (vi (p : Int))], []) (MS I J cc ss) (fun o T => o = .inl (some (vi (d (19 * p + 309)))) ∧ T = MS I J cc ss) := by
  have hw2 := hwi.2.1
  refine ev_n (fr' := (2, [some (vr 122), some (vi (p : Int))], [vi (p : Int), vr 122])) (S' := MS I J cc ss) 2 rfl ?_
  refine ev_cv rfl rfl rfl ⟨Nat.le_of_ble_eq_true rfl, Nat.le_of_ble_eq_true rfl⟩ (sp_hasRow_122 X _ _ _ _ (p : Int) dI) ?_
  show Ev X k_X3_itemsOf (5, [some (vr 122), some (vi (p : Int))], [vi (if 0 ≤ (p : Int) ∧ (p : Int) < d 308 then 1 else 0)]) (MS I J cc ss) _
  refine ev_beq _ rfl (by decide) (fun (g1 : ¬ (0 ≤ (p : Int) ∧ (p : Int) < d 308)) => False.elim (by omega)) (fun (g1 : 0 ≤ (p : Int) ∧ (p : Int) < d 308) => ?_)
  show Ev X k_X3_itemsOf (8, [some (vr 122), some (vi (p : Int))], []) (MS I J cc ss) _
  refine ev_n (fr' := (13, [some (vr 122), some (vi (p : Int))], [vi (p : Int), vr 124])) (S' := MS I J cc ss) 3 rfl ?_
  refine ev_iaN (j := p) (z := (d (19 * p + 309))) rfl rfl (by omega) (by omega) ((dI.2.2 _ (by omega)).2.1) ?_
  show Ev X k_X3_itemsOf (14, [some (vr 122), some (vi (p : Int))], [vi (d (19 * p + 309))]) (MS I J cc ss) _
  refine ev_n (fr' := (18, [some (vr 122), some (vi (p : Int))], [vi (d (19 * p + 309))])) (S' := MS I J cc ss) 1 rfl ?_
  refine ev_r rfl rfl rfl ?_
  first | exact ⟨rfl, rfl⟩ | exact ⟨congrArg (fun z => Sum.inl (some (vi z))) (by first | rfl | (rw [if_pos (by omega)]) | (rw [if_neg (by omega)]) | (simp only [*]; done) | omega), rfl⟩
theorem sp_isRowFull_122 (X : AX) (I J : Nat → Nat → Int) (cc ss : Nat) {d : F1} (p : Nat) (dI : IRep I J 122 d) (hwi : WI d) (hp : (p : Int) < d 308) : Ev X k_X3_isRowFull (0, [some (vr 122), some (vi (p : Int))], []) (MS I J cc ss) (fun o T => o = .inl (some (vi (if 6 ≤ d (19 * p + 309) then 1 else 0))) ∧ T = MS I J cc ss) := by
  refine ev_n (fr' := (2, [some (vr 122), some (vi (p : Int))], [vi (p : Int), vr 122])) (S' := MS I J cc ss) 2 rfl ?_
  refine ev_cv rfl rfl rfl ⟨Nat.le_of_ble_eq_true rfl, Nat.le_of_ble_eq_true rfl⟩ (sp_itemsOf_122 X _ _ _ _ p dI hwi (by omega)) ?_
  show Ev X k_X3_isRowFull (5, [some (vr 122), some (vi (p : Int))], [vi (d (19 * p + 309))]) (MS I J cc ss) _
  refine ev_n (fr' := (7, [some (vr 122), some (vi (p : Int))], [vi 6, vi (d (19 * p + 309))])) (S' := MS I J cc ss) 1 rfl ?_
  refine ev_ic (c := .lt) (off := 7) rfl (by decide) (fun (g1 : (d (19 * p + 309)) < 6) => ?_) (fun (g1 : ¬ ((d (19 * p + 309)) < 6)) => ?_)
  · show Ev X k_X3_isRowFull (14, [some (vr 122), some (vi (p : Int))], []) (MS I J cc ss) _
    refine ev_n (fr' := (15, [some (vr 122), some (vi (p : Int))], [vi 0])) (S' := MS I J cc ss) 1 rfl ?_
    refine ev_r rfl rfl rfl ?_
    first | exact ⟨rfl, rfl⟩ | exact ⟨congrArg (fun z => Sum.inl (some (vi z))) (by first | rfl | (rw [if_pos (by omega)]) | (rw [if_neg (by omega)]) | (simp only [*]; done) | omega), rfl⟩
  · show Ev X k_X3_isRowFull (10, [some (vr 122), some (vi (p : Int))], []) (MS I J cc ss) _
    refine ev_n (fr' := (15, [some (vr 122), some (vi (p : Int))], [vi 1])) (S' := MS I J cc ss) 2 rfl ?_
    refine ev_r rfl rfl rfl ?_
    first | exact ⟨rfl, rfl⟩ | exact ⟨congrArg (fun z => Sum.inl (some (vi z))) (by first | rfl | (rw [if_pos (by omega)]) | (rw [if_neg (by omega)]) | (simp only [*]; done) | omega), rfl⟩
theorem sp_hasItem_122 (X : AX) (I J : Nat → Nat → Int) (cc ss : Nat) {d : F1} (y : Int) (z : Int) (dI : IRep I J 122 d) (hwi : WI d) : Ev X k_X3_hasItem (0, [some (vr 122), some (vi y), some (vi z)], []) (MS I J cc ss) (fun o T => o = .inl (some (vi (if 0 ≤ y ∧ y < d 308 ∧ 0 ≤ z ∧ z < d (19 * y.toNat + 309) then 1 else 0))) ∧ T = MS I J cc ss) := by
  have hw2 := hwi.2.1
  refine ev_n (fr' := (2, [some (vr 122), some (vi y), some (vi z)], [vi y, vr 122])) (S' := MS I J cc ss) 2 rfl ?_
  refine ev_cv rfl rfl rfl ⟨Nat.le_of_ble_eq_true rfl, Nat.le_of_ble_eq_true rfl⟩ (sp_hasRow_122 X _ _ _ _ y dI) ?_
  show Ev X k_X3_hasItem (5, [some (vr 122), some (vi y), some (vi z)], [vi (if 0 ≤ y ∧ y < d 308 then 1 else 0)]) (MS I J cc ss) _
  refine ev_beq _ rfl (by decide) (fun (g1 : ¬ (0 ≤ y ∧ y < d 308)) => ?_) (fun (g1 : 0 ≤ y ∧ y < d 308) => ?_)
  · show Ev X k_X3_hasItem (26, [some (vr 122), some (vi y), some (vi z)], []) (MS I J cc ss) _
    refine ev_n (fr' := (27, [some (vr 122), some (vi y), some (vi z)], [vi 0])) (S' := MS I J cc ss) 1 rfl ?_
    refine ev_r rfl rfl rfl ?_
    first | exact ⟨rfl, rfl⟩ | exact ⟨congrArg (fun z => Sum.inl (some (vi z))) (by first | rfl | (rw [if_pos (by omega)]) | (rw [if_neg (by omega)]) | (simp only [*]; done) | omega), rfl⟩
  · show Ev X k_X3_hasItem (8, [some (vr 122), some (vi y), some (vi z)], []) (MS I J cc ss) _
    refine ev_n (fr' := (9, [some (vr 122), some (vi y), some (vi z)], [vi z])) (S' := MS I J cc ss) 1 rfl ?_
    refine ev_if (c := .lt) (off := 17) rfl (by decide) (fun (g2 : z < 0) => ?_) (fun (g2 : ¬ (z < 0)) => ?_)
    · show Ev X k_X3_hasItem (26, [some (vr 122), some (vi y), some (vi z)], []) (MS I J cc ss) _
      refine ev_n (fr' := (27, [some (vr 122), some (vi y), some (vi z)], [vi 0])) (S' := MS I J cc ss) 1 rfl ?_
      refine ev_r rfl rfl rfl ?_
      first | exact ⟨rfl, rfl⟩ | exact ⟨congrArg (fun z => Sum.inl (some (vi z))) (by first | rfl | (rw [if_pos (by omega)]) | (rw [if_neg (by omega)]) | (simp only [*]; done) | omega), rfl⟩
    · show Ev X k_X3_hasItem (12, [some (vr 122), some (vi y), some (vi z)], []) (MS I J cc ss) _
      refine ev_n (fr' := (18, [some (vr 122), some (vi y), some (vi z)], [vi y, vr 124, vi z])) (S' := MS I J cc ss) 4 rfl ?_
      refine ev_iaN (j := (y).toNat) (z := (d (19 * ((y).toNat) + 309))) rfl rfl (by omega) (by omega) ((dI.2.2 _ (by omega)).2.1) ?_
      show Ev X k_X3_hasItem (19, [some (vr 122), some (vi y), some (vi z)], [vi (d (19 * ((y).toNat) + 309)), vi z]) (MS I J cc ss) _
      refine ev_ic (c := .ge) (off := 7) rfl (by decide) (fun (g3 : (d (19 * ((y).toNat) + 309)) ≤ z) => ?_) (fun (g3 : ¬ ((d (19 * ((y).toNat) + 309)) ≤ z)) => ?_)
      · show Ev X k_X3_hasItem (26, [some (vr 122), some (vi y), some (vi z)], []) (MS I J cc ss) _
        refine ev_n (fr' := (27, [some (vr 122), some (vi y), some (vi z)], [vi 0])) (S' := MS I J cc ss) 1 rfl ?_
        refine ev_r rfl rfl rfl ?_
        first | exact ⟨rfl, rfl⟩ | exact ⟨congrArg (fun z => Sum.inl (some (vi z))) (by first | rfl | (rw [if_pos (by omega)]) | (rw [if_neg (by omega)]) | (simp only [*]; done) | omega), rfl⟩
      · show Ev X k_X3_hasItem (22, [some (vr 122), some (vi y), some (vi z)], []) (MS I J cc ss) _
        refine ev_n (fr' := (27, [some (vr 122), some (vi y), some (vi z)], [vi 1])) (S' := MS I J cc ss) 2 rfl ?_
        refine ev_r rfl rfl rfl ?_
        first | exact ⟨rfl, rfl⟩ | exact ⟨congrArg (fun z => Sum.inl (some (vi z))) (by first | rfl | (rw [if_pos (by omega)]) | (rw [if_neg (by omega)]) | (simp only [*]; done) | omega), rfl⟩
theorem sp_cellOf_122 (X : AX) (I J : Nat → Nat → Int) (cc ss : Nat) {d : F1} (p : Nat) (s : Nat) (w : Nat) (dI : IRep I J 122 d) (hwi : WI d) (hp : (p : Int) < d 308) (hs : (s : Int) < d (19 * p + 309)) (hq : w < 3) : Ev X k_X3_cellOf (0, [some (vr 122), some (vi (p : Int)), some (vi (s : Int)), some (vi (w : Int))], []) (MS I J cc ss) (fun o T => o = .inl (some (vi (18 * (p : Int) + 3 * (s : Int) + (w : Int)))) ∧ T = MS I J cc ss) := by
  have hw2 := hwi.2.1
  have hw3 := (hwi.2.2 p hp).2.1
  refine ev_n (fr' := (1, [some (vr 122), some (vi (p : Int)), some (vi (s : Int)), some (vi (w : Int))], [vi (p : Int)])) (S' := MS I J cc ss) 1 rfl ?_
  refine ev_if (c := .lt) (off := 37) rfl (by decide) (fun (g1 : (p : Int) < 0) => False.elim (by omega)) (fun (g1 : ¬ ((p : Int) < 0)) => ?_)
  show Ev X k_X3_cellOf (4, [some (vr 122), some (vi (p : Int)), some (vi (s : Int)), some (vi (w : Int))], []) (MS I J cc ss) _
  refine ev_n (fr' := (9, [some (vr 122), some (vi (p : Int)), some (vi (s : Int)), some (vi (w : Int))], [vi (I 122 4), vi (p : Int)])) (S' := MS I J cc ss) 3 rfl ?_
  refine ev_eqi (dI.2.1) ?_
  show Ev X k_X3_cellOf (9, [some (vr 122), some (vi (p : Int)), some (vi (s : Int)), some (vi (w : Int))], [vi (d 308), vi (p : Int)]) (MS I J cc ss) _
  refine ev_ic (c := .ge) (off := 29) rfl (by decide) (fun (g2 : (d 308) ≤ (p : Int)) => False.elim (by omega)) (fun (g2 : ¬ ((d 308) ≤ (p : Int))) => ?_)
  show Ev X k_X3_cellOf (12, [some (vr 122), some (vi (p : Int)), some (vi (s : Int)), some (vi (w : Int))], []) (MS I J cc ss) _
  refine ev_n (fr' := (13, [some (vr 122), some (vi (p : Int)), some (vi (s : Int)), some (vi (w : Int))], [vi (s : Int)])) (S' := MS I J cc ss) 1 rfl ?_
  refine ev_if (c := .lt) (off := 25) rfl (by decide) (fun (g3 : (s : Int) < 0) => False.elim (by omega)) (fun (g3 : ¬ ((s : Int) < 0)) => ?_)
  show Ev X k_X3_cellOf (16, [some (vr 122), some (vi (p : Int)), some (vi (s : Int)), some (vi (w : Int))], []) (MS I J cc ss) _
  refine ev_n (fr' := (22, [some (vr 122), some (vi (p : Int)), some (vi (s : Int)), some (vi (w : Int))], [vi (p : Int), vr 124, vi (s : Int)])) (S' := MS I J cc ss) 4 rfl ?_
  refine ev_iaN (j := p) (z := (d (19 * p + 309))) rfl rfl (by omega) (by omega) ((dI.2.2 _ (by omega)).2.1) ?_
  show Ev X k_X3_cellOf (23, [some (vr 122), some (vi (p : Int)), some (vi (s : Int)), some (vi (w : Int))], [vi (d (19 * p + 309)), vi (s : Int)]) (MS I J cc ss) _
  refine ev_ic (c := .ge) (off := 15) rfl (by decide) (fun (g4 : (d (19 * p + 309)) ≤ (s : Int)) => False.elim (by omega)) (fun (g4 : ¬ ((d (19 * p + 309)) ≤ (s : Int))) => ?_)
  show Ev X k_X3_cellOf (26, [some (vr 122), some (vi (p : Int)), some (vi (s : Int)), some (vi (w : Int))], []) (MS I J cc ss) _
  refine ev_n (fr' := (27, [some (vr 122), some (vi (p : Int)), some (vi (s : Int)), some (vi (w : Int))], [vi (w : Int)])) (S' := MS I J cc ss) 1 rfl ?_
  refine ev_if (c := .lt) (off := 11) rfl (by decide) (fun (g5 : (w : Int) < 0) => False.elim (by omega)) (fun (g5 : ¬ ((w : Int) < 0)) => ?_)
  show Ev X k_X3_cellOf (30, [some (vr 122), some (vi (p : Int)), some (vi (s : Int)), some (vi (w : Int))], []) (MS I J cc ss) _
  refine ev_n (fr' := (35, [some (vr 122), some (vi (p : Int)), some (vi (s : Int)), some (vi (w : Int))], [vi (I 122 0), vi (w : Int)])) (S' := MS I J cc ss) 3 rfl ?_
  refine ev_eqi (dI.1) ?_
  show Ev X k_X3_cellOf (35, [some (vr 122), some (vi (p : Int)), some (vi (s : Int)), some (vi (w : Int))], [vi 3, vi (w : Int)]) (MS I J cc ss) _
  refine ev_ic (c := .lt) (off := 5) rfl (by decide) (fun (g6 : (w : Int) < 3) => ?_) (fun (g6 : ¬ ((w : Int) < 3)) => False.elim (by omega))
  show Ev X k_X3_cellOf (40, [some (vr 122), some (vi (p : Int)), some (vi (s : Int)), some (vi (w : Int))], []) (MS I J cc ss) _
  refine ev_n (fr' := (43, [some (vr 122), some (vi (p : Int)), some (vi (s : Int)), some (vi (w : Int))], [vi 6, vi (p : Int)])) (S' := MS I J cc ss) 2 rfl ?_
  refine ev_mul (z := 6 * (p : Int)) rfl (by omega) (by omega) (by omega) ?_
  show Ev X k_X3_cellOf (44, [some (vr 122), some (vi (p : Int)), some (vi (s : Int)), some (vi (w : Int))], [vi (6 * (p : Int))]) (MS I J cc ss) _
  refine ev_n (fr' := (45, [some (vr 122), some (vi (p : Int)), some (vi (s : Int)), some (vi (w : Int))], [vi (s : Int), vi (6 * (p : Int))])) (S' := MS I J cc ss) 1 rfl ?_
  refine ev_add (z := 6 * (p : Int) + (s : Int)) rfl (by omega) (by omega) (by omega) ?_
  show Ev X k_X3_cellOf (46, [some (vr 122), some (vi (p : Int)), some (vi (s : Int)), some (vi (w : Int))], [vi (6 * (p : Int) + (s : Int))]) (MS I J cc ss) _
  refine ev_n (fr' := (50, [some (vr 122), some (vi (p : Int)), some (vi (s : Int)), some (vi (w : Int))], [vi (I 122 0), vi (6 * (p : Int) + (s : Int))])) (S' := MS I J cc ss) 2 rfl ?_
  refine ev_eqi (dI.1) ?_
  show Ev X k_X3_cellOf (50, [some (vr 122), some (vi (p : Int)), some (vi (s : Int)), some (vi (w : Int))], [vi 3, vi (6 * (p : Int) + (s : Int))]) (MS I J cc ss) _
  refine ev_mul (z := 18 * (p : Int) + 3 * (s : Int)) rfl (by omega) (by omega) (by omega) ?_
  show Ev X k_X3_cellOf (51, [some (vr 122), some (vi (p : Int)), some (vi (s : Int)), some (vi (w : Int))], [vi (18 * (p : Int) + 3 * (s : Int))]) (MS I J cc ss) _
  refine ev_n (fr' := (52, [some (vr 122), some (vi (p : Int)), some (vi (s : Int)), some (vi (w : Int))], [vi (w : Int), vi (18 * (p : Int) + 3 * (s : Int))])) (S' := MS I J cc ss) 1 rfl ?_
  refine ev_add (z := 18 * (p : Int) + 3 * (s : Int) + (w : Int)) rfl (by omega) (by omega) (by omega) ?_
  show Ev X k_X3_cellOf (53, [some (vr 122), some (vi (p : Int)), some (vi (s : Int)), some (vi (w : Int))], [vi (18 * (p : Int) + 3 * (s : Int) + (w : Int))]) (MS I J cc ss) _
  refine ev_r rfl rfl rfl ?_
  first | exact ⟨rfl, rfl⟩ | exact ⟨congrArg (fun z => Sum.inl (some (vi z))) (by first | rfl | (rw [if_pos (by omega)]) | (rw [if_neg (by omega)]) | (simp only [*]; done) | omega), rfl⟩
theorem sp_number_122 (X : AX) (I J : Nat → Nat → Int) (cc ss : Nat) {d : F1} (p : Nat) (s : Nat) (w : Nat) (dI : IRep I J 122 d) (hwi : WI d) (hp : (p : Int) < d 308) (hs : (s : Int) < d (19 * p + 309)) (hq : w < 3) : Ev X k_X3_number (0, [some (vr 122), some (vi (p : Int)), some (vi (s : Int)), some (vi (w : Int)), none], []) (MS I J cc ss) (fun o T => o = .inl (some (vi (d (19 * p + 3 * s + w + 310)))) ∧ T = MS I J cc ss) := by
  have hw2 := hwi.2.1
  have hw3 := (hwi.2.2 p hp).2.1
  refine ev_n (fr' := (4, [some (vr 122), some (vi (p : Int)), some (vi (s : Int)), some (vi (w : Int)), none], [vi (w : Int), vi (s : Int), vi (p : Int), vr 122])) (S' := MS I J cc ss) 4 rfl ?_
  refine ev_cv rfl rfl rfl ⟨Nat.le_of_ble_eq_true rfl, Nat.le_of_ble_eq_true rfl⟩ (sp_cellOf_122 X _ _ _ _ p s w dI hwi (by omega) (by omega) (by omega)) ?_
  show Ev X k_X3_number (7, [some (vr 122), some (vi (p : Int)), some (vi (s : Int)), some (vi (w : Int)), none], [vi (18 * (p : Int) + 3 * (s : Int) + (w : Int))]) (MS I J cc ss) _
  refine ev_n (fr' := (19, [some (vr 122), some (vi (p : Int)), some (vi (s : Int)), some (vi (w : Int)), some (vi (18 * (p : Int) + 3 * (s : Int) + (w : Int)))], [vi 143, vi 0, vi (18 * (p : Int) + 3 * (s : Int) + (w : Int))])) (S' := MS I J cc ss) 8 rfl ?_
  refine ev_cv rfl rfl rfl ⟨Nat.le_of_ble_eq_true rfl, Nat.le_of_ble_eq_true rfl⟩ (sp_within X _ (18 * (p : Int) + 3 * (s : Int) + (w : Int)) 0 143 ) ?_
  show Ev X k_X3_number (22, [some (vr 122), some (vi (p : Int)), some (vi (s : Int)), some (vi (w : Int)), some (vi (18 * (p : Int) + 3 * (s : Int) + (w : Int)))], [vi (if 0 ≤ 18 * (p : Int) + 3 * (s : Int) + (w : Int) ∧ 18 * (p : Int) + 3 * (s : Int) + (w : Int) ≤ 143 then 1 else 0)]) (MS I J cc ss) _
  refine ev_beq _ rfl (by decide) (fun (g1 : ¬ (0 ≤ 18 * (p : Int) + 3 * (s : Int) + (w : Int) ∧ 18 * (p : Int) + 3 * (s : Int) + (w : Int) ≤ 143)) => False.elim (by omega)) (fun (g1 : 0 ≤ 18 * (p : Int) + 3 * (s : Int) + (w : Int) ∧ 18 * (p : Int) + 3 * (s : Int) + (w : Int) ≤ 143) => ?_)
  show Ev X k_X3_number (25, [some (vr 122), some (vi (p : Int)), some (vi (s : Int)), some (vi (w : Int)), some (vi (18 * (p : Int) + 3 * (s : Int) + (w : Int)))], []) (MS I J cc ss) _
  refine ev_n (fr' := (31, [some (vr 122), some (vi (p : Int)), some (vi (s : Int)), some (vi (w : Int)), some (vi (18 * (p : Int) + 3 * (s : Int) + (w : Int)))], [vi (18 * (p : Int) + 3 * (s : Int) + (w : Int)), vr 125])) (S' := MS I J cc ss) 3 rfl ?_
  refine ev_iaN (j := 18 * p + 3 * s + w) (z := (d (19 * p + 3 * s + w + 310))) rfl rfl (by omega) (by omega) ((dI.2.2 _ hp).2.2 _ _ hs hq) ?_
  show Ev X k_X3_number (32, [some (vr 122), some (vi (p : Int)), some (vi (s : Int)), some (vi (w : Int)), some (vi (18 * (p : Int) + 3 * (s : Int) + (w : Int)))], [vi (d (19 * p + 3 * s + w + 310))]) (MS I J cc ss) _
  refine ev_n (fr' := (36, [some (vr 122), some (vi (p : Int)), some (vi (s : Int)), some (vi (w : Int)), some (vi (18 * (p : Int) + 3 * (s : Int) + (w : Int)))], [vi (d (19 * p + 3 * s + w + 310))])) (S' := MS I J cc ss) 1 rfl ?_
  refine ev_r rfl rfl rfl ?_
  first | exact ⟨rfl, rfl⟩ | exact ⟨congrArg (fun z => Sum.inl (some (vi z))) (by first | rfl | (rw [if_pos (by omega)]) | (rw [if_neg (by omega)]) | (simp only [*]; done) | omega), rfl⟩
