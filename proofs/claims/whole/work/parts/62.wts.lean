/-! WEIGHTS of icons (printed by gen/g62.py) -/
theorem areaB_sup {l t r b P : Int} {y x : Nat} (h : areaB l t r b P y x = true) : (y : Int) < P ∧ (x : Int) < P := by
  have := of_decide_eq_true h; omega
theorem boxB_sup {l t r b s P : Int} {y x : Nat} (h : boxB l t r b s P y x = true) : (y : Int) < P ∧ (x : Int) < P := by
  unfold boxB at h
  simp only [Bool.or_eq_true] at h
  rcases h with ((h | h) | h) | h <;> exact areaB_sup h
theorem shapeB_sup {kd a b c d e dx dy P ex : Int} {y x : Nat} (h : shapeB kd a b c d e dx dy P ex y x = true) : (y : Int) < P ∧ (x : Int) < P := by
  unfold shapeB at h
  split at h
  · unfold lineB at h
    obtain ⟨i, _, h2⟩ := (orN_true _).mp h
    exact areaB_sup h2
  · split at h
    · exact boxB_sup h
    · exact areaB_sup h
theorem iconB_sup {g : F1} {i : Nat} {bu bp P ex : Int} {y x : Nat} (h : iconB g i bu bp P ex y x = true) : (y : Int) < P ∧ (x : Int) < P := by
  unfold iconB at h
  obtain ⟨u, _, h2⟩ := (orN_true _).mp h
  unfold icB at h2
  split at h2
  · cases h2
  · unfold useB at h2
    obtain ⟨s, _, h3⟩ := (orN_true _).mp h2
    exact shapeB_sup h3
abbrev icF (g : F1) (i : Nat) (P e : Int) : B2 := iconB g i (-1) (-1) P e
def wtF (g : F1) (P e : Int) (i : Nat) : Int := wF (icF g i P e) P
def mwF (g : F1) (P e : Int) : Int := if g 308 = 0 then 0 else sumF (wtF g P e) (g 308).toNat / g 308
noncomputable def tpF (g : F1) (i n : Nat) (e : Int) : Int := 1024 * grpF n true false (icF g i (n : Int) e) + grpF n false true (holB (icF g i (n : Int) e) n)
theorem sumF_lt_all {f : Nat → Int} : ∀ n : Nat, (∀ i, i < n → 0 ≤ f i ∧ f i ≤ 1) → ∀ m : Nat, m ≤ n → (∀ i, m ≤ i → i < n → f i = 0) → sumF f n ≤ m
  | 0, _, m, hm, _ => by simp [sumF]
  | n + 1, h, m, hm, h0 => by
    simp only [sumF]
    by_cases e : m = n + 1
    · have h1 := sumF_rng (f := f) (b := 1) n (fun i hi => h i (by omega))
      have h2 := h n (by omega)
      omega
    · have h1 := sumF_lt_all n (fun i hi => h i (by omega)) m (by omega) (fun i h1 h2 => h0 i h1 (by omega))
      rw [h0 n (by omega) (by omega)]; omega
theorem cntB_sq {D : B2} {n : Nat} (hn : n ≤ 32) (hs : ∀ y x, D y x = true → y < n ∧ x < n) : cntB D ≤ (n : Int) * n := by
  have hr : ∀ y, sumF (fun x => if D y x then (1 : Int) else 0) 32 ≤ n := fun y => sumF_lt_all 32 (fun x _ => by by_cases e : D y x <;> simp [e]) n hn (fun x h1 _ => if_neg (fun q => by have := hs y x q; omega))
  have h0 : ∀ y, n ≤ y → sumF (fun x => if D y x then (1 : Int) else 0) 32 = 0 := fun y hy => by
    rw [sumF_congr (f' := fun _ => 0) 32 (fun x _ => if_neg (fun q => by have := hs y x q; omega))]; rfl
  have hp : ∀ k : Nat, sumF (fun y => sumF (fun x => if D y x then (1 : Int) else 0) 32) k ≤ (if k ≤ n then (k : Int) * n else (n : Int) * n) := by
    intro k
    induction k with
    | zero => simp [sumF]
    | succ k ih =>
      show sumF _ k + sumF (fun x => if D k x then (1 : Int) else 0) 32 ≤ _
      have e1 : ((k + 1 : Nat) : Int) * n = (k : Int) * n + n := by rw [Int.natCast_add, Int.add_mul]; simp
      have h1 := hr k
      have h2 := h0 k
      by_cases q : k + 1 ≤ n
      · rw [if_pos q, e1]
        rw [if_pos (show k ≤ n by omega)] at ih
        omega
      · rw [if_neg q]
        rw [h2 (by omega)]
        by_cases q2 : k ≤ n
        · rw [if_pos q2, show k = n by omega] at ih; rw [show k = n by omega]; omega
        · rw [if_neg q2] at ih; omega
  have := hp 32
  unfold cntB
  split at this
  · have e : n = 32 := by omega
    subst e; exact this
  · exact this
theorem wF_rng {D : B2} {P : Int} (h : 4 ≤ P ∧ P ≤ 32) (hs : ∀ y x, D y x = true → (y : Int) < P ∧ (x : Int) < P) : 0 ≤ wF D P ∧ wF D P ≤ 1000 := by
  have h2 := cntB_rng D
  obtain ⟨n, rfl⟩ : ∃ n : Nat, P = n := ⟨P.toNat, by omega⟩
  have h3 := cntB_sq (D := D) (n := n) (by omega) (fun y x q => by have := hs y x q; omega)
  have m2 : 4 * 4 ≤ (n : Int) * n := Int.mul_le_mul h.1 h.1 (by omega) (by omega)
  unfold wF
  constructor
  · exact Int.ediv_nonneg (by omega) (by omega)
  · have : 1000 * cntB D / ((n : Int) * n) < 1001 := by
      rw [Int.ediv_lt_iff_lt_mul (by omega)]
      omega
    omega
theorem wtF_rng {g : F1} {P e : Int} (h : 4 ≤ P ∧ P ≤ 32) (i : Nat) : 0 ≤ wtF g P e i ∧ wtF g P e i ≤ 1000 := wF_rng h (fun _ _ q => iconB_sup q)
theorem mwF_rng {g : F1} {P e : Int} (hw : WI g) (h : 4 ≤ P ∧ P ≤ 32) : 0 ≤ mwF g P e ∧ mwF g P e ≤ 1000 := by
  unfold mwF
  have h0 := hw.1
  split
  · omega
  · have h1 := sumF_rng (f := wtF g P e) (b := 1000) (g 308).toNat (fun i _ => wtF_rng h i)
    constructor
    · exact Int.ediv_nonneg h1.1 h0
    · have : sumF (wtF g P e) (g 308).toNat / g 308 < 1001 := by
        rw [Int.ediv_lt_iff_lt_mul (by omega)]; omega
      omega
