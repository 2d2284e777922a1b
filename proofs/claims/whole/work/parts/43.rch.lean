/-! GROUPS: what is reached, how groups are taken one after another. -/
abbrev B2 : Type := Nat → Nat → Bool
def nbr (dg : Bool) (y x y' x' : Nat) : Prop := y' ≤ y + 1 ∧ y ≤ y' + 1 ∧ x' ≤ x + 1 ∧ x ≤ x' + 1 ∧ (dg = true ∨ y = y' ∨ x = x')
/-- reached from (sy, sx) in the free set -/
def Rch (O : B2) (dg : Bool) (sy sx y x : Nat) : Prop := ∀ C : Nat → Nat → Prop, C sy sx → (∀ y x y' x', C y x → nbr dg y x y' x' → O y' x' = true → C y' x') → C y x
theorem Rch.seed {O : B2} {dg : Bool} {sy sx : Nat} : Rch O dg sy sx sy sx := fun _ h _ => h
theorem Rch.step {O : B2} {dg : Bool} {sy sx y x y' x' : Nat} (h : Rch O dg sy sx y x) (hn : nbr dg y x y' x') (ho : O y' x' = true) : Rch O dg sy sx y' x' := fun C h1 h2 => h2 y x y' x' (h C h1 h2) hn ho
theorem Rch.inO {O : B2} {dg : Bool} {sy sx y x : Nat} (hs : O sy sx = true) (h : Rch O dg sy sx y x) : O y x = true := h (fun y x => O y x = true) hs (fun _ _ _ _ _ _ h => h)
/-- a group: holds the seed, holds only what is reached, closed -/
def isGrp (O : B2) (dg : Bool) (sy sx : Nat) (G : B2) : Prop := G sy sx = true ∧ (∀ y x, G y x = true → Rch O dg sy sx y x) ∧ ∀ y x y' x', G y x = true → nbr dg y x y' x' → O y' x' = true → G y' x' = true
theorem isGrp.iff {O : B2} {dg : Bool} {sy sx : Nat} {G : B2} (h : isGrp O dg sy sx G) (y x : Nat) : G y x = true ↔ Rch O dg sy sx y x :=
  ⟨h.2.1 y x, fun q => q (fun y x => G y x = true) h.1 h.2.2⟩
theorem isGrp.uniq {O : B2} {dg : Bool} {sy sx : Nat} {G G' : B2} (h : isGrp O dg sy sx G) (h' : isGrp O dg sy sx G') (y x : Nat) : G y x = G' y x := by
  rw [Bool.eq_iff_iff, h.iff, h'.iff]
/-- sums: a pixel more -/
theorem sumF_le {f f' : Nat → Int} : ∀ n : Nat, (∀ i, i < n → f i ≤ f' i) → sumF f n ≤ sumF f' n
  | 0, _ => Int.le_refl _
  | n + 1, h => by
    have h1 := sumF_le n (fun i hi => h i (Nat.lt_succ_of_lt hi))
    have h2 := h n (Nat.lt_succ_self n)
    simp only [sumF]; omega
theorem sumF_lt {f f' : Nat → Int} : ∀ n : Nat, (∀ i, i < n → f i ≤ f' i) → ∀ j, j < n → f j + 1 ≤ f' j → sumF f n + 1 ≤ sumF f' n
  | 0, _, _, hj, _ => absurd hj (by omega)
  | n + 1, h, j, hj, hl => by
    have h1 := sumF_le n (fun i hi => h i (Nat.lt_succ_of_lt hi))
    have h2 := h n (Nat.lt_succ_self n)
    simp only [sumF]
    by_cases e : j = n
    · subst e; omega
    · have h3 := sumF_lt n (fun i hi => h i (Nat.lt_succ_of_lt hi)) j (by omega) hl
      omega
theorem cntB_lt {G G' : B2} (h : ∀ y x, y < 32 → x < 32 → G y x = true → G' y x = true) {y x : Nat} (hy : y < 32) (hx : x < 32) (h0 : G y x = false) (h1 : G' y x = true) : cntB G + 1 ≤ cntB G' := by
  have e : ∀ y x, y < 32 → x < 32 → (if G y x = true then (1 : Int) else 0) ≤ (if G' y x = true then 1 else 0) := by
    intro y x hy hx
    by_cases q : G y x = true
    · rw [if_pos q, if_pos (h y x hy hx q)]; exact Int.le_refl _
    · rw [if_neg q]; split <;> omega
  unfold cntB
  refine sumF_lt 32 (fun y hy => sumF_le 32 (fun x hx => e y x hy hx)) y hy ?_
  refine sumF_lt 32 (fun x hx => e y x hy hx) x hx ?_
  rw [h0, h1]; decide
theorem cntB_congr {G G' : B2} (h : ∀ y x, y < 32 → x < 32 → G y x = G' y x) : cntB G = cntB G' := by
  unfold cntB
  exact sumF_congr 32 (fun y hy => sumF_congr 32 (fun x hx => by rw [h y x hy hx]))
theorem sumF_one {f f' : Nat → Int} : ∀ n : Nat, ∀ j, j < n → (∀ i, i < n → i ≠ j → f' i = f i) → f' j = f j + 1 → sumF f' n = sumF f n + 1
  | 0, _, hj, _, _ => absurd hj (by omega)
  | n + 1, j, hj, h, hl => by
    simp only [sumF]
    by_cases e : j = n
    · subst e
      rw [sumF_congr j (fun i hi => h i (by omega) (by omega)), hl]; omega
    · rw [sumF_one n j (by omega) (fun i hi => h i (by omega)) hl, h n (by omega) (fun q => e q.symm)]; omega
theorem cntB_add {G : B2} {y x : Nat} (hy : y < 32) (hx : x < 32) (h0 : G y x = false) : cntB (fun y' x' => G y' x' || decide (y' = y ∧ x' = x)) = cntB G + 1 := by
  unfold cntB
  refine sumF_one 32 y hy (fun y' hy' hne => sumF_congr 32 (fun x' hx' => ?_)) ?_
  · simp only [decide_eq_false (show ¬ (y' = y ∧ x' = x) from fun q => hne q.1), Bool.or_false]
  · refine sumF_one 32 x hx (fun x' hx' hne => ?_) ?_
    · show (if (G y x' || decide (y = y ∧ x' = x)) = true then (1 : Int) else 0) = _
      rw [decide_eq_false (show ¬ (y = y ∧ x' = x) from fun q => hne q.2), Bool.or_false]
    · simp only [h0, Bool.false_or]; decide +revert
/-- the free set when a group is gone -/
noncomputable def goneB (O : B2) (dg : Bool) (sy sx : Nat) : B2 := fun y x => O y x && !(@decide (Rch O dg sy sx y x) (Classical.propDecidable _))
/-- at the edge of a square of n by n -/
def edgB (n y x : Nat) : Prop := y = 0 ∨ x = 0 ∨ y + 1 = n ∨ x + 1 = n
noncomputable def insB (O : B2) (dg : Bool) (n sy sx : Nat) : Bool := @decide (∀ y x, Rch O dg sy sx y x → ¬ edgB n y x) (Classical.propDecidable _)
/-- what is free when q pixels have been looked at, row by row; groups counted so far (all of them, or those inside) -/
noncomputable def opQ (n : Nat) (dg : Bool) (O : B2) : Nat → B2
  | 0 => O
  | q + 1 => if opQ n dg O q (q / n) (q % n) = true then goneB (opQ n dg O q) dg (q / n) (q % n) else opQ n dg O q
noncomputable def grQ (n : Nat) (dg ins : Bool) (O : B2) : Nat → Int
  | 0 => 0
  | q + 1 => grQ n dg ins O q + (if opQ n dg O q (q / n) (q % n) = true ∧ (ins = false ∨ insB (opQ n dg O q) dg n (q / n) (q % n) = true) then 1 else 0)
/-- the number of groups -/
noncomputable def grpF (n : Nat) (dg ins : Bool) (O : B2) : Int := grQ n dg ins O (n * n)
theorem opQ_sub {n : Nat} {dg : Bool} {O : B2} : ∀ q y x, opQ n dg O q y x = true → O y x = true
  | 0, _, _, h => h
  | q + 1, y, x, h => by
    unfold opQ at h
    split at h
    · unfold goneB at h
      rw [Bool.and_eq_true] at h
      exact opQ_sub q y x h.1
    · exact opQ_sub q y x h
theorem grQ_rng {n : Nat} {dg ins : Bool} {O : B2} : ∀ q, 0 ≤ grQ n dg ins O q ∧ grQ n dg ins O q ≤ q
  | 0 => by simp [grQ]
  | q + 1 => by
    have h := grQ_rng (n := n) (dg := dg) (ins := ins) (O := O) q
    unfold grQ
    split <;> omega
theorem goneB_eq {O G : B2} {dg : Bool} {sy sx : Nat} (h : isGrp O dg sy sx G) (y x : Nat) : goneB O dg sy sx y x = (O y x && !G y x) := by
  unfold goneB
  congr 2
  rw [Bool.eq_iff_iff, h.iff]
  exact @decide_eq_true_iff _ (Classical.propDecidable _)
theorem insB_iff {O G : B2} {dg : Bool} {n sy sx : Nat} (h : isGrp O dg sy sx G) : insB O dg n sy sx = true ↔ ∀ y x, G y x = true → ¬ edgB n y x := by
  unfold insB
  rw [@decide_eq_true_iff _ (Classical.propDecidable _)]
  exact ⟨fun q y x hg => q y x ((h.iff y x).mp hg), fun q y x hr => q y x ((h.iff y x).mpr hr)⟩
