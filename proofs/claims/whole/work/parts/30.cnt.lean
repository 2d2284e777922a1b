/-! COUNTING AND FINDING over the set (printed by gen/g30.py) -/
def cntF (f : Nat → Int) (x : Int) (n : Nat) : Int := sumF (fun u => if f u = x then 1 else 0) n
theorem sumF_rng {f : Nat → Int} {b : Int} : ∀ (n : Nat), (∀ i, i < n → 0 ≤ f i ∧ f i ≤ b) → 0 ≤ sumF f n ∧ sumF f n ≤ n * b
  | 0, _ => by simp [sumF]
  | n + 1, h => by
    have h1 := sumF_rng n (fun i hi => h i (Nat.lt_succ_of_lt hi))
    have h2 := h n (Nat.lt_succ_self n)
    have h3 : ((n + 1 : Nat) : Int) * b = n * b + b := by rw [Int.natCast_add, Int.add_mul]; simp
    rw [h3]; simp only [sumF]; omega
theorem cntF_rng (f : Nat → Int) (x : Int) (n : Nat) : 0 ≤ cntF f x n ∧ cntF f x n ≤ n := by
  have h := sumF_rng (f := fun u => if f u = x then 1 else 0) (b := 1) n (fun i _ => by by_cases h : f i = x <;> simp [h])
  unfold cntF; omega
theorem cntF_succ (f : Nat → Int) (x : Int) (n : Nat) : cntF f x (n + 1) = cntF f x n + (if f n = x then 1 else 0) := rfl
theorem fnd_miss {f : Nat → Int} {x : Int} : ∀ (n r : Nat), (∀ q, r ≤ q → q < r + n → f q ≠ x) → fnd f x n r = -1
  | 0, _, _ => rfl
  | n + 1, r, h => by
    unfold fnd
    rw [if_neg (h r (Nat.le_refl r) (by omega))]
    exact fnd_miss n (r + 1) (fun q h1 h2 => h q (by omega) (by omega))
theorem fnd_hit {f : Nat → Int} {x : Int} {k : Nat} (hf : f k = x) : ∀ (n r : Nat), (∀ q, r ≤ q → q < k → f q ≠ x) → r ≤ k → k < r + n → fnd f x n r = k
  | 0, r, _, h1, h2 => absurd h2 (by omega)
  | n + 1, r, h, h1, h2 => by
    unfold fnd
    by_cases hr : r = k
    · subst hr; rw [if_pos hf]
    · rw [if_neg (h r (Nat.le_refl r) (by omega))]
      exact fnd_hit hf n (r + 1) (fun q h3 h4 => h q (by omega) h4) (by omega) (by omega)
theorem nlt_succ {P : Nat → Prop} {k : Nat} (h : ∀ q, q < k → P q) (hk : P k) : ∀ q, q < k + 1 → P q := fun q hq => (Nat.lt_succ_iff_lt_or_eq.mp hq).elim (h q) (fun e => e ▸ hk)
theorem lp_find_5 (X : AX) (I J : Nat → Nat → Int) (cc ss : Nat) {g : F1} (x : Int) (hP : PRep I J 5 g) (hwp : WP g) (k : Nat) (hk : (k : Int) ≤ g 11) (hq : ∀ q, q < k → g (q + 461) ≠ x) : Ev X k_X3_find (2, [some (vr 5), some (vl x), none, some (vi (k : Int))], []) (MS I J cc ss) (fun o T => o = .inl (some (vi (fnd (fun r => g (r + 461)) x (g 11).toNat 0))) ∧ T = MS I J cc ss) := by
  have hw1 := hwp.2.1
  refine ev_n (fr' := (7, [some (vr 5), some (vl x), none, some (vi (k : Int))], [vi (I 5 4), vi (k : Int)])) (S' := MS I J cc ss) 3 rfl ?_
  refine ev_eqi (hP.2.1) ?_
  show Ev X k_X3_find (7, [some (vr 5), some (vl x), none, some (vi (k : Int))], [vi (g 11), vi (k : Int)]) (MS I J cc ss) _
  refine ev_ic (c := .ge) (off := 22) rfl (by decide) (fun (g1 : (g 11) ≤ (k : Int)) => ?_) (fun (g1 : ¬ ((g 11) ≤ (k : Int))) => ?_)
  · show Ev X k_X3_find (29, [some (vr 5), some (vl x), none, some (vi (k : Int))], []) (MS I J cc ss) _
    refine ev_n (fr' := (30, [some (vr 5), some (vl x), none, some (vi (k : Int))], [vi (-1)])) (S' := MS I J cc ss) 1 rfl ?_
    refine ev_r rfl rfl rfl ?_
    exact ⟨congrArg (fun z => Sum.inl (some (vi z))) (fnd_miss _ 0 (fun q _ h => hq q (by omega))).symm, rfl⟩
  · show Ev X k_X3_find (10, [some (vr 5), some (vl x), none, some (vi (k : Int))], []) (MS I J cc ss) _
    refine ev_n (fr' := (15, [some (vr 5), some (vl x), none, some (vi (k : Int))], [vi (k : Int), vr 6])) (S' := MS I J cc ss) 3 rfl ?_
    refine ev_laN (j := k) (z := (g (k + 461))) rfl rfl (by omega) (by omega) ((hP.2.2 _ (by omega)).1) ?_
    show Ev X k_X3_find (16, [some (vr 5), some (vl x), none, some (vi (k : Int))], [vl (g (k + 461))]) (MS I J cc ss) _
    refine ev_n (fr' := (17, [some (vr 5), some (vl x), none, some (vi (k : Int))], [vl x, vl (g (k + 461))])) (S' := MS I J cc ss) 1 rfl ?_
    refine ev_lc (c := .ne) (off := 5) rfl rfl (by decide) (fun (g2 : (g (k + 461)) ≠ x) => ?_) (fun (g2 : ¬ ((g (k + 461)) ≠ x)) => ?_)
    · show Ev X k_X3_find (23, [some (vr 5), some (vl x), none, some (vi (k : Int))], []) (MS I J cc ss) _
      refine ev_inc (z := (k : Int) + 1) rfl rfl (by omega) (by omega) (by omega) rfl ?_
      show Ev X k_X3_find (26, [some (vr 5), some (vl x), none, some (vi ((k : Int) + 1))], []) (MS I J cc ss) _
      refine ev_n (fr' := (2, [some (vr 5), some (vl x), none, some (vi ((k : Int) + 1))], [])) (S' := MS I J cc ss) 1 rfl ?_
      exact lp_find_5 X I J cc ss x hP hwp (k + 1) (by omega) (nlt_succ hq g2)
    · show Ev X k_X3_find (21, [some (vr 5), some (vl x), none, some (vi (k : Int))], []) (MS I J cc ss) _
      refine ev_n (fr' := (22, [some (vr 5), some (vl x), none, some (vi (k : Int))], [vi (k : Int)])) (S' := MS I J cc ss) 1 rfl ?_
      refine ev_r rfl rfl rfl ?_
      exact ⟨congrArg (fun z => Sum.inl (some (vi z))) (fnd_hit (by omega) _ 0 (fun q _ h => hq q h) (by omega) (by omega)).symm, rfl⟩
termination_by (g 11).toNat - k
decreasing_by all_goals omega
theorem sp_find_5 (X : AX) (I J : Nat → Nat → Int) (cc ss : Nat) {g : F1} (x : Int) (hP : PRep I J 5 g) (hwp : WP g) : Ev X k_X3_find (0, [some (vr 5), some (vl x), none, none], []) (MS I J cc ss) (fun o T => o = .inl (some (vi (fnd (fun r => g (r + 461)) x (g 11).toNat 0))) ∧ T = MS I J cc ss) := by
  have hw1 := hwp.2.1
  refine ev_n (fr' := (2, [some (vr 5), some (vl x), none, some (vi 0)], [])) (S' := MS I J cc ss) 2 rfl ?_
  exact lp_find_5 X I J cc ss x hP hwp 0 (by have := hwp.1; omega) (fun q h => absurd h (by omega))
theorem lp_find_9 (X : AX) (I J : Nat → Nat → Int) (cc ss : Nat) {g : F1} (x : Int) (hI : IRep I J 9 g) (hwi : WI g) (k : Nat) (hk : (k : Int) ≤ g 308) (hq : ∀ q, q < k → g (q + 469) ≠ x) : Ev X k_X3_find (2, [some (vr 9), some (vl x), none, some (vi (k : Int))], []) (MS I J cc ss) (fun o T => o = .inl (some (vi (fnd (fun r => g (r + 469)) x (g 308).toNat 0))) ∧ T = MS I J cc ss) := by
  have hw1 := hwi.2.1
  refine ev_n (fr' := (7, [some (vr 9), some (vl x), none, some (vi (k : Int))], [vi (I 9 4), vi (k : Int)])) (S' := MS I J cc ss) 3 rfl ?_
  refine ev_eqi (hI.2.1) ?_
  show Ev X k_X3_find (7, [some (vr 9), some (vl x), none, some (vi (k : Int))], [vi (g 308), vi (k : Int)]) (MS I J cc ss) _
  refine ev_ic (c := .ge) (off := 22) rfl (by decide) (fun (g1 : (g 308) ≤ (k : Int)) => ?_) (fun (g1 : ¬ ((g 308) ≤ (k : Int))) => ?_)
  · show Ev X k_X3_find (29, [some (vr 9), some (vl x), none, some (vi (k : Int))], []) (MS I J cc ss) _
    refine ev_n (fr' := (30, [some (vr 9), some (vl x), none, some (vi (k : Int))], [vi (-1)])) (S' := MS I J cc ss) 1 rfl ?_
    refine ev_r rfl rfl rfl ?_
    exact ⟨congrArg (fun z => Sum.inl (some (vi z))) (fnd_miss _ 0 (fun q _ h => hq q (by omega))).symm, rfl⟩
  · show Ev X k_X3_find (10, [some (vr 9), some (vl x), none, some (vi (k : Int))], []) (MS I J cc ss) _
    refine ev_n (fr' := (15, [some (vr 9), some (vl x), none, some (vi (k : Int))], [vi (k : Int), vr 10])) (S' := MS I J cc ss) 3 rfl ?_
    refine ev_laN (j := k) (z := (g (k + 469))) rfl rfl (by omega) (by omega) ((hI.2.2 _ (by omega)).1) ?_
    show Ev X k_X3_find (16, [some (vr 9), some (vl x), none, some (vi (k : Int))], [vl (g (k + 469))]) (MS I J cc ss) _
    refine ev_n (fr' := (17, [some (vr 9), some (vl x), none, some (vi (k : Int))], [vl x, vl (g (k + 469))])) (S' := MS I J cc ss) 1 rfl ?_
    refine ev_lc (c := .ne) (off := 5) rfl rfl (by decide) (fun (g2 : (g (k + 469)) ≠ x) => ?_) (fun (g2 : ¬ ((g (k + 469)) ≠ x)) => ?_)
    · show Ev X k_X3_find (23, [some (vr 9), some (vl x), none, some (vi (k : Int))], []) (MS I J cc ss) _
      refine ev_inc (z := (k : Int) + 1) rfl rfl (by omega) (by omega) (by omega) rfl ?_
      show Ev X k_X3_find (26, [some (vr 9), some (vl x), none, some (vi ((k : Int) + 1))], []) (MS I J cc ss) _
      refine ev_n (fr' := (2, [some (vr 9), some (vl x), none, some (vi ((k : Int) + 1))], [])) (S' := MS I J cc ss) 1 rfl ?_
      exact lp_find_9 X I J cc ss x hI hwi (k + 1) (by omega) (nlt_succ hq g2)
    · show Ev X k_X3_find (21, [some (vr 9), some (vl x), none, some (vi (k : Int))], []) (MS I J cc ss) _
      refine ev_n (fr' := (22, [some (vr 9), some (vl x), none, some (vi (k : Int))], [vi (k : Int)])) (S' := MS I J cc ss) 1 rfl ?_
      refine ev_r rfl rfl rfl ?_
      exact ⟨congrArg (fun z => Sum.inl (some (vi z))) (fnd_hit (by omega) _ 0 (fun q _ h => hq q h) (by omega) (by omega)).symm, rfl⟩
termination_by (g 308).toNat - k
decreasing_by all_goals omega
theorem sp_find_9 (X : AX) (I J : Nat → Nat → Int) (cc ss : Nat) {g : F1} (x : Int) (hI : IRep I J 9 g) (hwi : WI g) : Ev X k_X3_find (0, [some (vr 9), some (vl x), none, none], []) (MS I J cc ss) (fun o T => o = .inl (some (vi (fnd (fun r => g (r + 469)) x (g 308).toNat 0))) ∧ T = MS I J cc ss) := by
  have hw1 := hwi.2.1
  refine ev_n (fr' := (2, [some (vr 9), some (vl x), none, some (vi 0)], [])) (S' := MS I J cc ss) 2 rfl ?_
  exact lp_find_9 X I J cc ss x hI hwi 0 (by have := hwi.1; omega) (fun q h => absurd h (by omega))
theorem lp_find_118 (X : AX) (I J : Nat → Nat → Int) (cc ss : Nat) {d : F1} (x : Int) (dP : PRep I J 118 d) (hwp : WP d) (k : Nat) (hk : (k : Int) ≤ d 11) (hq : ∀ q, q < k → d (q + 461) ≠ x) : Ev X k_X3_find (2, [some (vr 118), some (vl x), none, some (vi (k : Int))], []) (MS I J cc ss) (fun o T => o = .inl (some (vi (fnd (fun r => d (r + 461)) x (d 11).toNat 0))) ∧ T = MS I J cc ss) := by
  have hw1 := hwp.2.1
  refine ev_n (fr' := (7, [some (vr 118), some (vl x), none, some (vi (k : Int))], [vi (I 118 4), vi (k : Int)])) (S' := MS I J cc ss) 3 rfl ?_
  refine ev_eqi (dP.2.1) ?_
  show Ev X k_X3_find (7, [some (vr 118), some (vl x), none, some (vi (k : Int))], [vi (d 11), vi (k : Int)]) (MS I J cc ss) _
  refine ev_ic (c := .ge) (off := 22) rfl (by decide) (fun (g1 : (d 11) ≤ (k : Int)) => ?_) (fun (g1 : ¬ ((d 11) ≤ (k : Int))) => ?_)
  · show Ev X k_X3_find (29, [some (vr 118), some (vl x), none, some (vi (k : Int))], []) (MS I J cc ss) _
    refine ev_n (fr' := (30, [some (vr 118), some (vl x), none, some (vi (k : Int))], [vi (-1)])) (S' := MS I J cc ss) 1 rfl ?_
    refine ev_r rfl rfl rfl ?_
    exact ⟨congrArg (fun z => Sum.inl (some (vi z))) (fnd_miss _ 0 (fun q _ h => hq q (by omega))).symm, rfl⟩
  · show Ev X k_X3_find (10, [some (vr 118), some (vl x), none, some (vi (k : Int))], []) (MS I J cc ss) _
    refine ev_n (fr' := (15, [some (vr 118), some (vl x), none, some (vi (k : Int))], [vi (k : Int), vr 119])) (S' := MS I J cc ss) 3 rfl ?_
    refine ev_laN (j := k) (z := (d (k + 461))) rfl rfl (by omega) (by omega) ((dP.2.2 _ (by omega)).1) ?_
    show Ev X k_X3_find (16, [some (vr 118), some (vl x), none, some (vi (k : Int))], [vl (d (k + 461))]) (MS I J cc ss) _
    refine ev_n (fr' := (17, [some (vr 118), some (vl x), none, some (vi (k : Int))], [vl x, vl (d (k + 461))])) (S' := MS I J cc ss) 1 rfl ?_
    refine ev_lc (c := .ne) (off := 5) rfl rfl (by decide) (fun (g2 : (d (k + 461)) ≠ x) => ?_) (fun (g2 : ¬ ((d (k + 461)) ≠ x)) => ?_)
    · show Ev X k_X3_find (23, [some (vr 118), some (vl x), none, some (vi (k : Int))], []) (MS I J cc ss) _
      refine ev_inc (z := (k : Int) + 1) rfl rfl (by omega) (by omega) (by omega) rfl ?_
      show Ev X k_X3_find (26, [some (vr 118), some (vl x), none, some (vi ((k : Int) + 1))], []) (MS I J cc ss) _
      refine ev_n (fr' := (2, [some (vr 118), some (vl x), none, some (vi ((k : Int) + 1))], [])) (S' := MS I J cc ss) 1 rfl ?_
      exact lp_find_118 X I J cc ss x dP hwp (k + 1) (by omega) (nlt_succ hq g2)
    · show Ev X k_X3_find (21, [some (vr 118), some (vl x), none, some (vi (k : Int))], []) (MS I J cc ss) _
      refine ev_n (fr' := (22, [some (vr 118), some (vl x), none, some (vi (k : Int))], [vi (k : Int)])) (S' := MS I J cc ss) 1 rfl ?_
      refine ev_r rfl rfl rfl ?_
      exact ⟨congrArg (fun z => Sum.inl (some (vi z))) (fnd_hit (by omega) _ 0 (fun q _ h => hq q h) (by omega) (by omega)).symm, rfl⟩
termination_by (d 11).toNat - k
decreasing_by all_goals omega
theorem sp_find_118 (X : AX) (I J : Nat → Nat → Int) (cc ss : Nat) {d : F1} (x : Int) (dP : PRep I J 118 d) (hwp : WP d) : Ev X k_X3_find (0, [some (vr 118), some (vl x), none, none], []) (MS I J cc ss) (fun o T => o = .inl (some (vi (fnd (fun r => d (r + 461)) x (d 11).toNat 0))) ∧ T = MS I J cc ss) := by
  have hw1 := hwp.2.1
  refine ev_n (fr' := (2, [some (vr 118), some (vl x), none, some (vi 0)], [])) (S' := MS I J cc ss) 2 rfl ?_
  exact lp_find_118 X I J cc ss x dP hwp 0 (by have := hwp.1; omega) (fun q h => absurd h (by omega))
theorem lp_find_122 (X : AX) (I J : Nat → Nat → Int) (cc ss : Nat) {d : F1} (x : Int) (dI : IRep I J 122 d) (hwi : WI d) (k : Nat) (hk : (k : Int) ≤ d 308) (hq : ∀ q, q < k → d (q + 469) ≠ x) : Ev X k_X3_find (2, [some (vr 122), some (vl x), none, some (vi (k : Int))], []) (MS I J cc ss) (fun o T => o = .inl (some (vi (fnd (fun r => d (r + 469)) x (d 308).toNat 0))) ∧ T = MS I J cc ss) := by
  have hw1 := hwi.2.1
  refine ev_n (fr' := (7, [some (vr 122), some (vl x), none, some (vi (k : Int))], [vi (I 122 4), vi (k : Int)])) (S' := MS I J cc ss) 3 rfl ?_
  refine ev_eqi (dI.2.1) ?_
  show Ev X k_X3_find (7, [some (vr 122), some (vl x), none, some (vi (k : Int))], [vi (d 308), vi (k : Int)]) (MS I J cc ss) _
  refine ev_ic (c := .ge) (off := 22) rfl (by decide) (fun (g1 : (d 308) ≤ (k : Int)) => ?_) (fun (g1 : ¬ ((d 308) ≤ (k : Int))) => ?_)
  · show Ev X k_X3_find (29, [some (vr 122), some (vl x), none, some (vi (k : Int))], []) (MS I J cc ss) _
    refine ev_n (fr' := (30, [some (vr 122), some (vl x), none, some (vi (k : Int))], [vi (-1)])) (S' := MS I J cc ss) 1 rfl ?_
    refine ev_r rfl rfl rfl ?_
    exact ⟨congrArg (fun z => Sum.inl (some (vi z))) (fnd_miss _ 0 (fun q _ h => hq q (by omega))).symm, rfl⟩
  · show Ev X k_X3_find (10, [some (vr 122), some (vl x), none, some (vi (k : Int))], []) (MS I J cc ss) _
    refine ev_n (fr' := (15, [some (vr 122), some (vl x), none, some (vi (k : Int))], [vi (k : Int), vr 123])) (S' := MS I J cc ss) 3 rfl ?_
    refine ev_laN (j := k) (z := (d (k + 469))) rfl rfl (by omega) (by omega) ((dI.2.2 _ (by omega)).1) ?_
    show Ev X k_X3_find (16, [some (vr 122), some (vl x), none, some (vi (k : Int))], [vl (d (k + 469))]) (MS I J cc ss) _
    refine ev_n (fr' := (17, [some (vr 122), some (vl x), none, some (vi (k : Int))], [vl x, vl (d (k + 469))])) (S' := MS I J cc ss) 1 rfl ?_
    refine ev_lc (c := .ne) (off := 5) rfl rfl (by decide) (fun (g2 : (d (k + 469)) ≠ x) => ?_) (fun (g2 : ¬ ((d (k + 469)) ≠ x)) => ?_)
    · show Ev X k_X3_find (23, [some (vr 122), some (vl x), none, some (vi (k : Int))], []) (MS I J cc ss) _
      refine ev_inc (z := (k : Int) + 1) rfl rfl (by omega) (by omega) (by omega) rfl ?_
      show Ev X k_X3_find (26, [some (vr 122), some (vl x), none, some (vi ((k : Int) + 1))], []) (MS I J cc ss) _
      refine ev_n (fr' := (2, [some (vr 122), some (vl x), none, some (vi ((k : Int) + 1))], [])) (S' := MS I J cc ss) 1 rfl ?_
      exact lp_find_122 X I J cc ss x dI hwi (k + 1) (by omega) (nlt_succ hq g2)
    · show Ev X k_X3_find (21, [some (vr 122), some (vl x), none, some (vi (k : Int))], []) (MS I J cc ss) _
      refine ev_n (fr' := (22, [some (vr 122), some (vl x), none, some (vi (k : Int))], [vi (k : Int)])) (S' := MS I J cc ss) 1 rfl ?_
      refine ev_r rfl rfl rfl ?_
      exact ⟨congrArg (fun z => Sum.inl (some (vi z))) (fnd_hit (by omega) _ 0 (fun q _ h => hq q h) (by omega) (by omega)).symm, rfl⟩
termination_by (d 308).toNat - k
decreasing_by all_goals omega
theorem sp_find_122 (X : AX) (I J : Nat → Nat → Int) (cc ss : Nat) {d : F1} (x : Int) (dI : IRep I J 122 d) (hwi : WI d) : Ev X k_X3_find (0, [some (vr 122), some (vl x), none, none], []) (MS I J cc ss) (fun o T => o = .inl (some (vi (fnd (fun r => d (r + 469)) x (d 308).toNat 0))) ∧ T = MS I J cc ss) := by
  have hw1 := hwi.2.1
  refine ev_n (fr' := (2, [some (vr 122), some (vl x), none, some (vi 0)], [])) (S' := MS I J cc ss) 2 rfl ?_
  exact lp_find_122 X I J cc ss x dI hwi 0 (by have := hwi.1; omega) (fun q h => absurd h (by omega))
theorem sp_pixelsOf_r (X : AX) (I J : Nat → Nat → Int) (cc ss : Nat) {g : F1} (k : Nat) (hg : J 136 = g) (hws : WS g) (hk : (k : Int) < g 0) : Ev X k_X9_pixelsOf (0, [some (vr 135), some (vi (k : Int))], []) (MS I J cc ss) (fun o T => o = .inl (some (vi (g (2 * k + 1)))) ∧ T = MS I J cc ss) := by
  have hw1 := hws.2.2.1 k hk
  have hw2 := hws.2.1
  refine ev_n (fr' := (7, [some (vr 135), some (vi (k : Int))], [vi (k : Int), vi 2, vi 1, vr 136])) (S' := MS I J cc ss) 5 rfl ?_
  refine ev_mul (z := 2 * (k : Int)) rfl (by omega) (by omega) (by omega) ?_
  show Ev X k_X9_pixelsOf (8, [some (vr 135), some (vi (k : Int))], [vi (2 * (k : Int)), vi 1, vr 136]) (MS I J cc ss) _
  refine ev_add (z := 2 * (k : Int) + 1) rfl (by omega) (by omega) (by omega) ?_
  show Ev X k_X9_pixelsOf (9, [some (vr 135), some (vi (k : Int))], [vi (2 * (k : Int) + 1), vr 136]) (MS I J cc ss) _
  refine ev_laN (j := 2 * k + 1) (z := (g (2 * k + 1))) rfl rfl (by omega) (by omega) (congrFun hg _) ?_
  show Ev X k_X9_pixelsOf (10, [some (vr 135), some (vi (k : Int))], [vl (g (2 * k + 1))]) (MS I J cc ss) _
  refine ev_l2i rfl (by omega) (by omega) ?_
  show Ev X k_X9_pixelsOf (11, [some (vr 135), some (vi (k : Int))], [vi (g (2 * k + 1))]) (MS I J cc ss) _
  refine ev_r rfl rfl rfl ?_
  first | exact ⟨rfl, rfl⟩ | exact ⟨congrArg (fun z => Sum.inl (some (vi z))) (by first | rfl | (rw [if_pos (by omega)]) | (rw [if_neg (by omega)]) | (simp only [*]; done) | omega), rfl⟩
theorem sp_extraOf_r (X : AX) (I J : Nat → Nat → Int) (cc ss : Nat) {g : F1} (k : Nat) (hg : J 136 = g) (hws : WS g) (hk : (k : Int) < g 0) : Ev X k_X9_extraOf (0, [some (vr 135), some (vi (k : Int))], []) (MS I J cc ss) (fun o T => o = .inl (some (vi (g (2 * k + 2)))) ∧ T = MS I J cc ss) := by
  have hw1 := hws.2.2.1 k hk
  have hw2 := hws.2.1
  refine ev_n (fr' := (7, [some (vr 135), some (vi (k : Int))], [vi (k : Int), vi 2, vi 1, vr 136])) (S' := MS I J cc ss) 5 rfl ?_
  refine ev_mul (z := 2 * (k : Int)) rfl (by omega) (by omega) (by omega) ?_
  show Ev X k_X9_extraOf (8, [some (vr 135), some (vi (k : Int))], [vi (2 * (k : Int)), vi 1, vr 136]) (MS I J cc ss) _
  refine ev_add (z := 2 * (k : Int) + 1) rfl (by omega) (by omega) (by omega) ?_
  show Ev X k_X9_extraOf (9, [some (vr 135), some (vi (k : Int))], [vi (2 * (k : Int) + 1), vr 136]) (MS I J cc ss) _
  refine ev_n (fr' := (10, [some (vr 135), some (vi (k : Int))], [vi 1, vi (2 * (k : Int) + 1), vr 136])) (S' := MS I J cc ss) 1 rfl ?_
  refine ev_add (z := 2 * (k : Int) + 2) rfl (by omega) (by omega) (by omega) ?_
  show Ev X k_X9_extraOf (11, [some (vr 135), some (vi (k : Int))], [vi (2 * (k : Int) + 2), vr 136]) (MS I J cc ss) _
  refine ev_laN (j := 2 * k + 2) (z := (g (2 * k + 2))) rfl rfl (by omega) (by omega) (congrFun hg _) ?_
  show Ev X k_X9_extraOf (12, [some (vr 135), some (vi (k : Int))], [vl (g (2 * k + 2))]) (MS I J cc ss) _
  refine ev_l2i rfl (by omega) (by omega) ?_
  show Ev X k_X9_extraOf (13, [some (vr 135), some (vi (k : Int))], [vi (g (2 * k + 2))]) (MS I J cc ss) _
  refine ev_r rfl rfl rfl ?_
  first | exact ⟨rfl, rfl⟩ | exact ⟨congrArg (fun z => Sum.inl (some (vi z))) (by first | rfl | (rw [if_pos (by omega)]) | (rw [if_neg (by omega)]) | (simp only [*]; done) | omega), rfl⟩
theorem sp_shapesOf_r (X : AX) (I J : Nat → Nat → Int) (cc ss : Nat) {g : F1} (p : Nat) (hg : J 136 = g) (hwp : WP g) (hp : (p : Int) < g 11) : Ev X k_X9_shapesOf (0, [some (vr 135), some (vi (p : Int))], []) (MS I J cc ss) (fun o T => o = .inl (some (vi (g (37 * p + 12)))) ∧ T = MS I J cc ss) := by
  have hw1 := hwp.2.2 p hp
  have hw2 := hwp.2.1
  refine ev_n (fr' := (9, [some (vr 135), some (vi (p : Int))], [vi (p : Int), vi 37, vi 12, vr 136])) (S' := MS I J cc ss) 5 rfl ?_
  refine ev_mul (z := 37 * (p : Int)) rfl (by omega) (by omega) (by omega) ?_
  show Ev X k_X9_shapesOf (10, [some (vr 135), some (vi (p : Int))], [vi (37 * (p : Int)), vi 12, vr 136]) (MS I J cc ss) _
  refine ev_add (z := 37 * (p : Int) + 12) rfl (by omega) (by omega) (by omega) ?_
  show Ev X k_X9_shapesOf (11, [some (vr 135), some (vi (p : Int))], [vi (37 * (p : Int) + 12), vr 136]) (MS I J cc ss) _
  refine ev_laN (j := 37 * p + 12) (z := (g (37 * p + 12))) rfl rfl (by omega) (by omega) (congrFun hg _) ?_
  show Ev X k_X9_shapesOf (12, [some (vr 135), some (vi (p : Int))], [vl (g (37 * p + 12))]) (MS I J cc ss) _
  refine ev_l2i rfl (by omega) (by omega) ?_
  show Ev X k_X9_shapesOf (13, [some (vr 135), some (vi (p : Int))], [vi (g (37 * p + 12))]) (MS I J cc ss) _
  refine ev_r rfl rfl rfl ?_
  first | exact ⟨rfl, rfl⟩ | exact ⟨congrArg (fun z => Sum.inl (some (vi z))) (by first | rfl | (rw [if_pos (by omega)]) | (rw [if_neg (by omega)]) | (simp only [*]; done) | omega), rfl⟩
theorem sp_usesOf_r (X : AX) (I J : Nat → Nat → Int) (cc ss : Nat) {g : F1} (i : Nat) (hg : J 136 = g) (hwi : WI g) (hi : (i : Int) < g 308) : Ev X k_X9_usesOf (0, [some (vr 135), some (vi (i : Int))], []) (MS I J cc ss) (fun o T => o = .inl (some (vi (g (19 * i + 309)))) ∧ T = MS I J cc ss) := by
  have hw1 := hwi.2.2 i hi
  have hw2 := hwi.2.1
  refine ev_n (fr' := (10, [some (vr 135), some (vi (i : Int))], [vi (i : Int), vi 19, vi 309, vr 136])) (S' := MS I J cc ss) 5 rfl ?_
  refine ev_mul (z := 19 * (i : Int)) rfl (by omega) (by omega) (by omega) ?_
  show Ev X k_X9_usesOf (11, [some (vr 135), some (vi (i : Int))], [vi (19 * (i : Int)), vi 309, vr 136]) (MS I J cc ss) _
  refine ev_add (z := 19 * (i : Int) + 309) rfl (by omega) (by omega) (by omega) ?_
  show Ev X k_X9_usesOf (12, [some (vr 135), some (vi (i : Int))], [vi (19 * (i : Int) + 309), vr 136]) (MS I J cc ss) _
  refine ev_laN (j := 19 * i + 309) (z := (g (19 * i + 309))) rfl rfl (by omega) (by omega) (congrFun hg _) ?_
  show Ev X k_X9_usesOf (13, [some (vr 135), some (vi (i : Int))], [vl (g (19 * i + 309))]) (MS I J cc ss) _
  refine ev_l2i rfl (by omega) (by omega) ?_
  show Ev X k_X9_usesOf (14, [some (vr 135), some (vi (i : Int))], [vi (g (19 * i + 309))]) (MS I J cc ss) _
  refine ev_r rfl rfl rfl ?_
  first | exact ⟨rfl, rfl⟩ | exact ⟨congrArg (fun z => Sum.inl (some (vi z))) (by first | rfl | (rw [if_pos (by omega)]) | (rw [if_neg (by omega)]) | (simp only [*]; done) | omega), rfl⟩
theorem wp_num {g : F1} (h : WP g) {p s w : Nat} (hp : (p : Int) < g 11) (hs : (s : Int) < g (37 * p + 12)) (hw : w < 6) : 0 ≤ g (37 * p + 6 * s + w + 13) ∧ g (37 * p + 6 * s + w + 13) ≤ 48 := by
  have h1 := (h.2.2 p hp).2.2 s hs
  rcases Nat.eq_zero_or_pos w with rfl | hw0
  · have := h1.1; have := h1.2.1; exact ⟨this |> fun _ => h1.1, by have := h1.2.1; show g (37 * p + 6 * s + 0 + 13) ≤ 48; simp only [Nat.add_zero]; omega⟩
  · have h2 := h1.2.2 w hw0 (by omega)
    have h3 := lowF_rng (g (37 * p + 6 * s + 13)) w
    have h4 := highF_rng (g (37 * p + 6 * s + 13)) w
    omega
theorem wi_num {g : F1} (h : WI g) (h8 : g 11 ≤ 8) {i u w : Nat} (hi : (i : Int) < g 308) (hu : (u : Int) < g (19 * i + 309)) (hw : w < 3) : -48 ≤ g (19 * i + 3 * u + w + 310) ∧ g (19 * i + 3 * u + w + 310) ≤ 48 := by
  have h1 := (h.2.2 i hi).2.2 u hu
  rcases (show w = 0 ∨ w = 1 ∨ w = 2 by omega) with rfl | rfl | rfl
  · simp only [Nat.add_zero]; omega
  · rw [show 19 * i + 3 * u + 1 + 310 = 19 * i + 3 * u + 311 by omega]; omega
  · rw [show 19 * i + 3 * u + 2 + 310 = 19 * i + 3 * u + 312 by omega]; omega
theorem sp_ofShape_r (X : AX) (I J : Nat → Nat → Int) (cc ss : Nat) {g : F1} (p : Nat) (s : Nat) (w : Nat) (hg : J 136 = g) (hwp : WP g) (hp : (p : Int) < g 11) (hs : (s : Int) < g (37 * p + 12)) (hq : w < 6) : Ev X k_X9_ofShape (0, [some (vr 135), some (vi (p : Int)), some (vi (s : Int)), some (vi (w : Int))], []) (MS I J cc ss) (fun o T => o = .inl (some (vi (g (37 * p + 6 * s + w + 13)))) ∧ T = MS I J cc ss) := by
  have hw1 := wp_num hwp hp hs hq
  have hw2 := hwp.2.1
  have hw3 := (hwp.2.2 p hp).2.1
  refine ev_n (fr' := (6, [some (vr 135), some (vi (p : Int)), some (vi (s : Int)), some (vi (w : Int))], [vi (s : Int), vi (p : Int), vr 136])) (S' := MS I J cc ss) 4 rfl ?_
  refine ev_cv rfl rfl rfl ⟨Nat.le_of_ble_eq_true rfl, Nat.le_of_ble_eq_true rfl⟩ (sp_shapeAt X _ (p : Int) (s : Int) (by omega)) ?_
  show Ev X k_X9_ofShape (9, [some (vr 135), some (vi (p : Int)), some (vi (s : Int)), some (vi (w : Int))], [vi (37 * (p : Int) + 6 * (s : Int) + 13), vr 136]) (MS I J cc ss) _
  refine ev_n (fr' := (10, [some (vr 135), some (vi (p : Int)), some (vi (s : Int)), some (vi (w : Int))], [vi (w : Int), vi (37 * (p : Int) + 6 * (s : Int) + 13), vr 136])) (S' := MS I J cc ss) 1 rfl ?_
  refine ev_add (z := 37 * (p : Int) + 6 * (s : Int) + (w : Int) + 13) rfl (by omega) (by omega) (by omega) ?_
  show Ev X k_X9_ofShape (11, [some (vr 135), some (vi (p : Int)), some (vi (s : Int)), some (vi (w : Int))], [vi (37 * (p : Int) + 6 * (s : Int) + (w : Int) + 13), vr 136]) (MS I J cc ss) _
  refine ev_laN (j := 37 * p + 6 * s + w + 13) (z := (g (37 * p + 6 * s + w + 13))) rfl rfl (by omega) (by omega) (congrFun hg _) ?_
  show Ev X k_X9_ofShape (12, [some (vr 135), some (vi (p : Int)), some (vi (s : Int)), some (vi (w : Int))], [vl (g (37 * p + 6 * s + w + 13))]) (MS I J cc ss) _
  refine ev_l2i rfl (by omega) (by omega) ?_
  show Ev X k_X9_ofShape (13, [some (vr 135), some (vi (p : Int)), some (vi (s : Int)), some (vi (w : Int))], [vi (g (37 * p + 6 * s + w + 13))]) (MS I J cc ss) _
  refine ev_r rfl rfl rfl ?_
  first | exact ⟨rfl, rfl⟩ | exact ⟨congrArg (fun z => Sum.inl (some (vi z))) (by first | rfl | (rw [if_pos (by omega)]) | (rw [if_neg (by omega)]) | (simp only [*]; done) | omega), rfl⟩
theorem sp_ofUse_r (X : AX) (I J : Nat → Nat → Int) (cc ss : Nat) {g : F1} (i : Nat) (u : Nat) (w : Nat) (hg : J 136 = g) (hwp : WP g) (hwi : WI g) (hi : (i : Int) < g 308) (hu : (u : Int) < g (19 * i + 309)) (hq : w < 3) : Ev X k_X9_ofUse (0, [some (vr 135), some (vi (i : Int)), some (vi (u : Int)), some (vi (w : Int))], []) (MS I J cc ss) (fun o T => o = .inl (some (vi (g (19 * i + 3 * u + w + 310)))) ∧ T = MS I J cc ss) := by
  have hw1 := wi_num hwi hwp.2.1 hi hu hq
  have hw2 := hwi.2.1
  have hw3 := (hwi.2.2 i hi).2.1
  refine ev_n (fr' := (6, [some (vr 135), some (vi (i : Int)), some (vi (u : Int)), some (vi (w : Int))], [vi (u : Int), vi (i : Int), vr 136])) (S' := MS I J cc ss) 4 rfl ?_
  refine ev_cv rfl rfl rfl ⟨Nat.le_of_ble_eq_true rfl, Nat.le_of_ble_eq_true rfl⟩ (sp_useAt X _ (i : Int) (u : Int) (by omega)) ?_
  show Ev X k_X9_ofUse (9, [some (vr 135), some (vi (i : Int)), some (vi (u : Int)), some (vi (w : Int))], [vi (19 * (i : Int) + 3 * (u : Int) + 310), vr 136]) (MS I J cc ss) _
  refine ev_n (fr' := (10, [some (vr 135), some (vi (i : Int)), some (vi (u : Int)), some (vi (w : Int))], [vi (w : Int), vi (19 * (i : Int) + 3 * (u : Int) + 310), vr 136])) (S' := MS I J cc ss) 1 rfl ?_
  refine ev_add (z := 19 * (i : Int) + 3 * (u : Int) + (w : Int) + 310) rfl (by omega) (by omega) (by omega) ?_
  show Ev X k_X9_ofUse (11, [some (vr 135), some (vi (i : Int)), some (vi (u : Int)), some (vi (w : Int))], [vi (19 * (i : Int) + 3 * (u : Int) + (w : Int) + 310), vr 136]) (MS I J cc ss) _
  refine ev_laN (j := 19 * i + 3 * u + w + 310) (z := (g (19 * i + 3 * u + w + 310))) rfl rfl (by omega) (by omega) (congrFun hg _) ?_
  show Ev X k_X9_ofUse (12, [some (vr 135), some (vi (i : Int)), some (vi (u : Int)), some (vi (w : Int))], [vl (g (19 * i + 3 * u + w + 310))]) (MS I J cc ss) _
  refine ev_l2i rfl (by omega) (by omega) ?_
  show Ev X k_X9_ofUse (13, [some (vr 135), some (vi (i : Int)), some (vi (u : Int)), some (vi (w : Int))], [vi (g (19 * i + 3 * u + w + 310))]) (MS I J cc ss) _
  refine ev_r rfl rfl rfl ?_
  first | exact ⟨rfl, rfl⟩ | exact ⟨congrArg (fun z => Sum.inl (some (vi z))) (by first | rfl | (rw [if_pos (by omega)]) | (rw [if_neg (by omega)]) | (simp only [*]; done) | omega), rfl⟩
theorem sp_isSize_r (X : AX) (I J : Nat → Nat → Int) (cc ss : Nat) {g : F1} (z : Int) (hg : J 136 = g) (hws : WS g) : Ev X k_X9_isSize (0, [some (vr 135), some (vi z)], []) (MS I J cc ss) (fun o T => o = .inl (some (vi (if 0 ≤ z ∧ z ≤ g 0 - 1 then 1 else 0))) ∧ T = MS I J cc ss) := by
  have hw1 := hws.1
  have hw2 := hws.2.1
  refine ev_n (fr' := (8, [some (vr 135), some (vi z)], [vi 0, vr 136, vl 0, vl z])) (S' := MS I J cc ss) 6 rfl ?_
  refine ev_laN (j := 0) (z := (g 0)) rfl rfl (by omega) (by omega) (congrFun hg _) ?_
  show Ev X k_X9_isSize (9, [some (vr 135), some (vi z)], [vl (g 0), vl 0, vl z]) (MS I J cc ss) _
  refine ev_n (fr' := (10, [some (vr 135), some (vi z)], [vl 1, vl (g 0), vl 0, vl z])) (S' := MS I J cc ss) 1 rfl ?_
  refine ev_lsub (z := (g 0) - 1) rfl (by omega) (by omega) (by omega) ?_
  show Ev X k_X9_isSize (11, [some (vr 135), some (vi z)], [vl ((g 0) - 1), vl 0, vl z]) (MS I J cc ss) _
  refine ev_cv rfl rfl rfl ⟨Nat.le_of_ble_eq_true rfl, Nat.le_of_ble_eq_true rfl⟩ (sp_isIn X _ z 0 ((g 0) - 1) ) ?_
  show Ev X k_X9_isSize (14, [some (vr 135), some (vi z)], [vi (if 0 ≤ z ∧ z ≤ (g 0) - 1 then 1 else 0)]) (MS I J cc ss) _
  refine ev_r rfl rfl (rt_b _) ?_
  first | exact ⟨rfl, rfl⟩ | exact ⟨congrArg (fun z => Sum.inl (some (vi z))) (by first | rfl | (rw [if_pos (by omega)]) | (rw [if_neg (by omega)]) | (simp only [*]; done) | omega), rfl⟩
theorem sp_isPart_r (X : AX) (I J : Nat → Nat → Int) (cc ss : Nat) {g : F1} (z : Int) (hg : J 136 = g) (hwp : WP g) : Ev X k_X9_isPart (0, [some (vr 135), some (vi z)], []) (MS I J cc ss) (fun o T => o = .inl (some (vi (if 0 ≤ z ∧ z ≤ g 11 - 1 then 1 else 0))) ∧ T = MS I J cc ss) := by
  have hw1 := hwp.1
  have hw2 := hwp.2.1
  refine ev_n (fr' := (9, [some (vr 135), some (vi z)], [vi 11, vr 136, vl 0, vl z])) (S' := MS I J cc ss) 6 rfl ?_
  refine ev_laN (j := 11) (z := (g 11)) rfl rfl (by omega) (by omega) (congrFun hg _) ?_
  show Ev X k_X9_isPart (10, [some (vr 135), some (vi z)], [vl (g 11), vl 0, vl z]) (MS I J cc ss) _
  refine ev_n (fr' := (11, [some (vr 135), some (vi z)], [vl 1, vl (g 11), vl 0, vl z])) (S' := MS I J cc ss) 1 rfl ?_
  refine ev_lsub (z := (g 11) - 1) rfl (by omega) (by omega) (by omega) ?_
  show Ev X k_X9_isPart (12, [some (vr 135), some (vi z)], [vl ((g 11) - 1), vl 0, vl z]) (MS I J cc ss) _
  refine ev_cv rfl rfl rfl ⟨Nat.le_of_ble_eq_true rfl, Nat.le_of_ble_eq_true rfl⟩ (sp_isIn X _ z 0 ((g 11) - 1) ) ?_
  show Ev X k_X9_isPart (15, [some (vr 135), some (vi z)], [vi (if 0 ≤ z ∧ z ≤ (g 11) - 1 then 1 else 0)]) (MS I J cc ss) _
  refine ev_r rfl rfl (rt_b _) ?_
  first | exact ⟨rfl, rfl⟩ | exact ⟨congrArg (fun z => Sum.inl (some (vi z))) (by first | rfl | (rw [if_pos (by omega)]) | (rw [if_neg (by omega)]) | (simp only [*]; done) | omega), rfl⟩
theorem sp_isIcon_r (X : AX) (I J : Nat → Nat → Int) (cc ss : Nat) {g : F1} (z : Int) (hg : J 136 = g) (hwi : WI g) : Ev X k_X9_isIcon (0, [some (vr 135), some (vi z)], []) (MS I J cc ss) (fun o T => o = .inl (some (vi (if 0 ≤ z ∧ z ≤ g 308 - 1 then 1 else 0))) ∧ T = MS I J cc ss) := by
  have hw1 := hwi.1
  have hw2 := hwi.2.1
  refine ev_n (fr' := (10, [some (vr 135), some (vi z)], [vi 308, vr 136, vl 0, vl z])) (S' := MS I J cc ss) 6 rfl ?_
  refine ev_laN (j := 308) (z := (g 308)) rfl rfl (by omega) (by omega) (congrFun hg _) ?_
  show Ev X k_X9_isIcon (11, [some (vr 135), some (vi z)], [vl (g 308), vl 0, vl z]) (MS I J cc ss) _
  refine ev_n (fr' := (12, [some (vr 135), some (vi z)], [vl 1, vl (g 308), vl 0, vl z])) (S' := MS I J cc ss) 1 rfl ?_
  refine ev_lsub (z := (g 308) - 1) rfl (by omega) (by omega) (by omega) ?_
  show Ev X k_X9_isIcon (13, [some (vr 135), some (vi z)], [vl ((g 308) - 1), vl 0, vl z]) (MS I J cc ss) _
  refine ev_cv rfl rfl rfl ⟨Nat.le_of_ble_eq_true rfl, Nat.le_of_ble_eq_true rfl⟩ (sp_isIn X _ z 0 ((g 308) - 1) ) ?_
  show Ev X k_X9_isIcon (16, [some (vr 135), some (vi z)], [vi (if 0 ≤ z ∧ z ≤ (g 308) - 1 then 1 else 0)]) (MS I J cc ss) _
  refine ev_r rfl rfl (rt_b _) ?_
  first | exact ⟨rfl, rfl⟩ | exact ⟨congrArg (fun z => Sum.inl (some (vi z))) (by first | rfl | (rw [if_pos (by omega)]) | (rw [if_neg (by omega)]) | (simp only [*]; done) | omega), rfl⟩
theorem lp_found_r (X : AX) (I J : Nat → Nat → Int) (cc ss : Nat) {g : F1} (f0 : Nat) (n : Nat) (x : Int) (hg : J 136 = g) (hf : f0 ≤ 469) (hn : n ≤ 8) (k : Nat) (hk : k ≤ n) (hq : ∀ q, q < k → g (f0 + q) ≠ x) : Ev X k_X9_found (3, [some (vr 135), some (vi (f0 : Int)), some (vl (n : Int)), none, some (vl x), none, some (vi (k : Int))], []) (MS I J cc ss) (fun o T => o = .inl (some (vi (fnd (fun r => g (f0 + r)) x n 0))) ∧ T = MS I J cc ss) := by
  refine ev_n (fr' := (7, [some (vr 135), some (vi (f0 : Int)), some (vl (n : Int)), none, some (vl x), none, some (vi (k : Int))], [vl (n : Int), vl (k : Int)])) (S' := MS I J cc ss) 3 rfl ?_
  refine ev_lc (c := .ge) (off := 27) rfl rfl (by decide) (fun (g1 : (n : Int) ≤ (k : Int)) => ?_) (fun (g1 : ¬ ((n : Int) ≤ (k : Int))) => ?_)
  · show Ev X k_X9_found (35, [some (vr 135), some (vi (f0 : Int)), some (vl (n : Int)), none, some (vl x), none, some (vi (k : Int))], []) (MS I J cc ss) _
    refine ev_n (fr' := (36, [some (vr 135), some (vi (f0 : Int)), some (vl (n : Int)), none, some (vl x), none, some (vi (k : Int))], [vi (-1)])) (S' := MS I J cc ss) 1 rfl ?_
    refine ev_r rfl rfl rfl ?_
    exact ⟨congrArg (fun z => Sum.inl (some (vi z))) ((fnd_miss _ 0 (fun q _ h => hq q (by omega))).symm), rfl⟩
  · show Ev X k_X9_found (11, [some (vr 135), some (vi (f0 : Int)), some (vl (n : Int)), none, some (vl x), none, some (vi (k : Int))], []) (MS I J cc ss) _
    refine ev_n (fr' := (18, [some (vr 135), some (vi (f0 : Int)), some (vl (n : Int)), none, some (vl x), none, some (vi (k : Int))], [vi (k : Int), vi (f0 : Int), vr 136])) (S' := MS I J cc ss) 4 rfl ?_
    refine ev_add (z := (f0 : Int) + (k : Int)) rfl (by omega) (by omega) (by omega) ?_
    show Ev X k_X9_found (19, [some (vr 135), some (vi (f0 : Int)), some (vl (n : Int)), none, some (vl x), none, some (vi (k : Int))], [vi ((f0 : Int) + (k : Int)), vr 136]) (MS I J cc ss) _
    refine ev_laN (j := f0 + k) (z := (g (f0 + k))) rfl rfl (by omega) (by omega) (congrFun hg _) ?_
    show Ev X k_X9_found (20, [some (vr 135), some (vi (f0 : Int)), some (vl (n : Int)), none, some (vl x), none, some (vi (k : Int))], [vl (g (f0 + k))]) (MS I J cc ss) _
    refine ev_n (fr' := (22, [some (vr 135), some (vi (f0 : Int)), some (vl (n : Int)), none, some (vl x), none, some (vi (k : Int))], [vl x, vl (g (f0 + k))])) (S' := MS I J cc ss) 1 rfl ?_
    refine ev_lc (c := .ne) (off := 6) rfl rfl (by decide) (fun (g2 : (g (f0 + k)) ≠ x) => ?_) (fun (g2 : ¬ ((g (f0 + k)) ≠ x)) => ?_)
    · show Ev X k_X9_found (29, [some (vr 135), some (vi (f0 : Int)), some (vl (n : Int)), none, some (vl x), none, some (vi (k : Int))], []) (MS I J cc ss) _
      refine ev_inc (z := (k : Int) + 1) rfl rfl (by omega) (by omega) (by omega) rfl ?_
      show Ev X k_X9_found (32, [some (vr 135), some (vi (f0 : Int)), some (vl (n : Int)), none, some (vl x), none, some (vi ((k : Int) + 1))], []) (MS I J cc ss) _
      refine ev_n (fr' := (3, [some (vr 135), some (vi (f0 : Int)), some (vl (n : Int)), none, some (vl x), none, some (vi ((k : Int) + 1))], [])) (S' := MS I J cc ss) 1 rfl ?_
      exact lp_found_r X I J cc ss f0 n x hg hf hn (k + 1) (by omega) (nlt_succ hq g2)
    · show Ev X k_X9_found (26, [some (vr 135), some (vi (f0 : Int)), some (vl (n : Int)), none, some (vl x), none, some (vi (k : Int))], []) (MS I J cc ss) _
      refine ev_n (fr' := (28, [some (vr 135), some (vi (f0 : Int)), some (vl (n : Int)), none, some (vl x), none, some (vi (k : Int))], [vi (k : Int)])) (S' := MS I J cc ss) 1 rfl ?_
      refine ev_r rfl rfl rfl ?_
      exact ⟨congrArg (fun z => Sum.inl (some (vi z))) ((fnd_hit (f := fun r => g (f0 + r)) (Decidable.of_not_not g2) _ 0 (fun q _ h => hq q h) (by omega) (by omega)).symm), rfl⟩
termination_by n - k
decreasing_by all_goals omega
theorem sp_found_r (X : AX) (I J : Nat → Nat → Int) (cc ss : Nat) {g : F1} (f0 : Nat) (n : Nat) (x : Int) (hg : J 136 = g) (hf : f0 ≤ 469) (hn : n ≤ 8) : Ev X k_X9_found (0, [some (vr 135), some (vi (f0 : Int)), some (vl (n : Int)), none, some (vl x), none, none], []) (MS I J cc ss) (fun o T => o = .inl (some (vi (fnd (fun r => g (f0 + r)) x n 0))) ∧ T = MS I J cc ss) := by
  refine ev_n (fr' := (3, [some (vr 135), some (vi (f0 : Int)), some (vl (n : Int)), none, some (vl x), none, some (vi 0)], [])) (S' := MS I J cc ss) 2 rfl ?_
  exact lp_found_r X I J cc ss f0 n x hg hf hn 0 (by omega) (fun q h => absurd h (by omega))
theorem lp_allItems_5 (X : AX) (I J : Nat → Nat → Int) (cc ss : Nat) {g : F1} (hP : PRep I J 5 g) (hwp : WP g) (k : Nat) (z : Int) (hk : (k : Int) ≤ g 11) (hz : z = sumF (fun r => g (37 * r + 12)) k) : Ev X k_X3_allItems (4, [some (vr 5), some (vi z), some (vi (k : Int))], []) (MS I J cc ss) (fun o T => o = .inl (some (vi (sumF (fun r => g (37 * r + 12)) (g 11).toNat))) ∧ T = MS I J cc ss) := by
  have hw2 := hwp.2.1
  have hw1 := hwp.1
  have hb := sumF_rng (f := (fun r => g (37 * r + 12))) (b := 6) k (fun i hi => by have := (hwp.2.2 i (by omega)); constructor <;> omega)
  have hq3 := hwp.2.2 k
  refine ev_n (fr' := (9, [some (vr 5), some (vi z), some (vi (k : Int))], [vi (I 5 4), vi (k : Int)])) (S' := MS I J cc ss) 3 rfl ?_
  refine ev_eqi (hP.2.1) ?_
  show Ev X k_X3_allItems (9, [some (vr 5), some (vi z), some (vi (k : Int))], [vi (g 11), vi (k : Int)]) (MS I J cc ss) _
  refine ev_ic (c := .ge) (off := 18) rfl (by decide) (fun (g1 : (g 11) ≤ (k : Int)) => ?_) (fun (g1 : ¬ ((g 11) ≤ (k : Int))) => ?_)
  · show Ev X k_X3_allItems (27, [some (vr 5), some (vi z), some (vi (k : Int))], []) (MS I J cc ss) _
    refine ev_n (fr' := (28, [some (vr 5), some (vi z), some (vi (k : Int))], [vi z])) (S' := MS I J cc ss) 1 rfl ?_
    refine ev_r rfl rfl rfl ?_
    exact ⟨congrArg (fun z => Sum.inl (some (vi z))) (by rw [hz, show (g 11).toNat = k by omega]), rfl⟩
  · show Ev X k_X3_allItems (12, [some (vr 5), some (vi z), some (vi (k : Int))], []) (MS I J cc ss) _
    refine ev_n (fr' := (18, [some (vr 5), some (vi z), some (vi (k : Int))], [vi (k : Int), vr 7, vi z])) (S' := MS I J cc ss) 4 rfl ?_
    refine ev_iaN (j := k) (z := (g (37 * k + 12))) rfl rfl (by omega) (by omega) ((hP.2.2 _ (by omega)).2.1) ?_
    show Ev X k_X3_allItems (19, [some (vr 5), some (vi z), some (vi (k : Int))], [vi (g (37 * k + 12)), vi z]) (MS I J cc ss) _
    refine ev_add (z := z + (g (37 * k + 12))) rfl (by omega) (by omega) (by omega) ?_
    show Ev X k_X3_allItems (20, [some (vr 5), some (vi z), some (vi (k : Int))], [vi (z + (g (37 * k + 12)))]) (MS I J cc ss) _
    refine ev_n (fr' := (21, [some (vr 5), some (vi (z + (g (37 * k + 12)))), some (vi (k : Int))], [])) (S' := MS I J cc ss) 1 rfl ?_
    refine ev_inc (z := (k : Int) + 1) rfl rfl (by omega) (by omega) (by omega) rfl ?_
    show Ev X k_X3_allItems (24, [some (vr 5), some (vi (z + (g (37 * k + 12)))), some (vi ((k : Int) + 1))], []) (MS I J cc ss) _
    refine ev_n (fr' := (4, [some (vr 5), some (vi (z + (g (37 * k + 12)))), some (vi ((k : Int) + 1))], [])) (S' := MS I J cc ss) 1 rfl ?_
    exact lp_allItems_5 X I J cc ss hP hwp (k + 1) (z + (g (37 * k + 12))) (by omega) (by simp only [sumF]; omega)
termination_by (g 11).toNat - k
decreasing_by all_goals omega
theorem sp_allItems_5 (X : AX) (I J : Nat → Nat → Int) (cc ss : Nat) {g : F1} (hP : PRep I J 5 g) (hwp : WP g) : Ev X k_X3_allItems (0, [some (vr 5), none, none], []) (MS I J cc ss) (fun o T => o = .inl (some (vi (sumF (fun r => g (37 * r + 12)) (g 11).toNat))) ∧ T = MS I J cc ss) := by
  have hw2 := hwp.2.1
  have hw1 := hwp.1
  refine ev_n (fr' := (4, [some (vr 5), some (vi 0), some (vi 0)], [])) (S' := MS I J cc ss) 4 rfl ?_
  exact lp_allItems_5 X I J cc ss hP hwp 0 0 (by have := hwp.1; omega) rfl
theorem lp_allShapes_r (X : AX) (I J : Nat → Nat → Int) (cc ss : Nat) {g : F1} (hg : J 136 = g) (hwp : WP g) (k : Nat) (z : Int) (hk : (k : Int) ≤ g 11) (hz : z = sumF (fun r => g (37 * r + 12)) k) : Ev X k_X9_allShapes (4, [some (vr 135), some (vi z), some (vi (k : Int))], []) (MS I J cc ss) (fun o T => o = .inl (some (vi (sumF (fun r => g (37 * r + 12)) (g 11).toNat))) ∧ T = MS I J cc ss) := by
  have hw2 := hwp.2.1
  have hw1 := hwp.1
  have hb := sumF_rng (f := (fun r => g (37 * r + 12))) (b := 6) k (fun i hi => by have := (hwp.2.2 i (by omega)); constructor <;> omega)
  have hq3 := hwp.2.2 k
  refine ev_n (fr' := (12, [some (vr 135), some (vi z), some (vi (k : Int))], [vi 11, vr 136, vl (k : Int)])) (S' := MS I J cc ss) 5 rfl ?_
  refine ev_laN (j := 11) (z := (g 11)) rfl rfl (by omega) (by omega) (congrFun hg _) ?_
  show Ev X k_X9_allShapes (13, [some (vr 135), some (vi z), some (vi (k : Int))], [vl (g 11), vl (k : Int)]) (MS I J cc ss) _
  refine ev_lc (c := .ge) (off := 17) rfl rfl (by decide) (fun (g1 : (g 11) ≤ (k : Int)) => ?_) (fun (g1 : ¬ ((g 11) ≤ (k : Int))) => ?_)
  · show Ev X k_X9_allShapes (31, [some (vr 135), some (vi z), some (vi (k : Int))], []) (MS I J cc ss) _
    refine ev_n (fr' := (32, [some (vr 135), some (vi z), some (vi (k : Int))], [vi z])) (S' := MS I J cc ss) 1 rfl ?_
    refine ev_r rfl rfl rfl ?_
    exact ⟨congrArg (fun z => Sum.inl (some (vi z))) (by rw [hz, show (g 11).toNat = k by omega]), rfl⟩
  · show Ev X k_X9_allShapes (17, [some (vr 135), some (vi z), some (vi (k : Int))], []) (MS I J cc ss) _
    refine ev_n (fr' := (20, [some (vr 135), some (vi z), some (vi (k : Int))], [vi (k : Int), vr 135, vi z])) (S' := MS I J cc ss) 3 rfl ?_
    refine ev_cv rfl rfl rfl ⟨Nat.le_of_ble_eq_true rfl, Nat.le_of_ble_eq_true rfl⟩ (sp_shapesOf_r X _ _ _ _ k hg hwp (by omega)) ?_
    show Ev X k_X9_allShapes (23, [some (vr 135), some (vi z), some (vi (k : Int))], [vi (g (37 * k + 12)), vi z]) (MS I J cc ss) _
    refine ev_add (z := z + (g (37 * k + 12))) rfl (by omega) (by omega) (by omega) ?_
    show Ev X k_X9_allShapes (24, [some (vr 135), some (vi z), some (vi (k : Int))], [vi (z + (g (37 * k + 12)))]) (MS I J cc ss) _
    refine ev_n (fr' := (25, [some (vr 135), some (vi (z + (g (37 * k + 12)))), some (vi (k : Int))], [])) (S' := MS I J cc ss) 1 rfl ?_
    refine ev_inc (z := (k : Int) + 1) rfl rfl (by omega) (by omega) (by omega) rfl ?_
    show Ev X k_X9_allShapes (28, [some (vr 135), some (vi (z + (g (37 * k + 12)))), some (vi ((k : Int) + 1))], []) (MS I J cc ss) _
    refine ev_n (fr' := (4, [some (vr 135), some (vi (z + (g (37 * k + 12)))), some (vi ((k : Int) + 1))], [])) (S' := MS I J cc ss) 1 rfl ?_
    exact lp_allShapes_r X I J cc ss hg hwp (k + 1) (z + (g (37 * k + 12))) (by omega) (by simp only [sumF]; omega)
termination_by (g 11).toNat - k
decreasing_by all_goals omega
theorem sp_allShapes_r (X : AX) (I J : Nat → Nat → Int) (cc ss : Nat) {g : F1} (hg : J 136 = g) (hwp : WP g) : Ev X k_X9_allShapes (0, [some (vr 135), none, none], []) (MS I J cc ss) (fun o T => o = .inl (some (vi (sumF (fun r => g (37 * r + 12)) (g 11).toNat))) ∧ T = MS I J cc ss) := by
  have hw2 := hwp.2.1
  have hw1 := hwp.1
  refine ev_n (fr' := (4, [some (vr 135), some (vi 0), some (vi 0)], [])) (S' := MS I J cc ss) 4 rfl ?_
  exact lp_allShapes_r X I J cc ss hg hwp 0 0 (by have := hwp.1; omega) rfl
theorem lp_allItems_9 (X : AX) (I J : Nat → Nat → Int) (cc ss : Nat) {g : F1} (hI : IRep I J 9 g) (hwi : WI g) (k : Nat) (z : Int) (hk : (k : Int) ≤ g 308) (hz : z = sumF (fun r => g (19 * r + 309)) k) : Ev X k_X3_allItems (4, [some (vr 9), some (vi z), some (vi (k : Int))], []) (MS I J cc ss) (fun o T => o = .inl (some (vi (sumF (fun r => g (19 * r + 309)) (g 308).toNat))) ∧ T = MS I J cc ss) := by
  have hw2 := hwi.2.1
  have hw1 := hwi.1
  have hb := sumF_rng (f := (fun r => g (19 * r + 309))) (b := 6) k (fun i hi => by have := (hwi.2.2 i (by omega)); constructor <;> omega)
  have hq3 := hwi.2.2 k
  refine ev_n (fr' := (9, [some (vr 9), some (vi z), some (vi (k : Int))], [vi (I 9 4), vi (k : Int)])) (S' := MS I J cc ss) 3 rfl ?_
  refine ev_eqi (hI.2.1) ?_
  show Ev X k_X3_allItems (9, [some (vr 9), some (vi z), some (vi (k : Int))], [vi (g 308), vi (k : Int)]) (MS I J cc ss) _
  refine ev_ic (c := .ge) (off := 18) rfl (by decide) (fun (g1 : (g 308) ≤ (k : Int)) => ?_) (fun (g1 : ¬ ((g 308) ≤ (k : Int))) => ?_)
  · show Ev X k_X3_allItems (27, [some (vr 9), some (vi z), some (vi (k : Int))], []) (MS I J cc ss) _
    refine ev_n (fr' := (28, [some (vr 9), some (vi z), some (vi (k : Int))], [vi z])) (S' := MS I J cc ss) 1 rfl ?_
    refine ev_r rfl rfl rfl ?_
    exact ⟨congrArg (fun z => Sum.inl (some (vi z))) (by rw [hz, show (g 308).toNat = k by omega]), rfl⟩
  · show Ev X k_X3_allItems (12, [some (vr 9), some (vi z), some (vi (k : Int))], []) (MS I J cc ss) _
    refine ev_n (fr' := (18, [some (vr 9), some (vi z), some (vi (k : Int))], [vi (k : Int), vr 11, vi z])) (S' := MS I J cc ss) 4 rfl ?_
    refine ev_iaN (j := k) (z := (g (19 * k + 309))) rfl rfl (by omega) (by omega) ((hI.2.2 _ (by omega)).2.1) ?_
    show Ev X k_X3_allItems (19, [some (vr 9), some (vi z), some (vi (k : Int))], [vi (g (19 * k + 309)), vi z]) (MS I J cc ss) _
    refine ev_add (z := z + (g (19 * k + 309))) rfl (by omega) (by omega) (by omega) ?_
    show Ev X k_X3_allItems (20, [some (vr 9), some (vi z), some (vi (k : Int))], [vi (z + (g (19 * k + 309)))]) (MS I J cc ss) _
    refine ev_n (fr' := (21, [some (vr 9), some (vi (z + (g (19 * k + 309)))), some (vi (k : Int))], [])) (S' := MS I J cc ss) 1 rfl ?_
    refine ev_inc (z := (k : Int) + 1) rfl rfl (by omega) (by omega) (by omega) rfl ?_
    show Ev X k_X3_allItems (24, [some (vr 9), some (vi (z + (g (19 * k + 309)))), some (vi ((k : Int) + 1))], []) (MS I J cc ss) _
    refine ev_n (fr' := (4, [some (vr 9), some (vi (z + (g (19 * k + 309)))), some (vi ((k : Int) + 1))], [])) (S' := MS I J cc ss) 1 rfl ?_
    exact lp_allItems_9 X I J cc ss hI hwi (k + 1) (z + (g (19 * k + 309))) (by omega) (by simp only [sumF]; omega)
termination_by (g 308).toNat - k
decreasing_by all_goals omega
theorem sp_allItems_9 (X : AX) (I J : Nat → Nat → Int) (cc ss : Nat) {g : F1} (hI : IRep I J 9 g) (hwi : WI g) : Ev X k_X3_allItems (0, [some (vr 9), none, none], []) (MS I J cc ss) (fun o T => o = .inl (some (vi (sumF (fun r => g (19 * r + 309)) (g 308).toNat))) ∧ T = MS I J cc ss) := by
  have hw2 := hwi.2.1
  have hw1 := hwi.1
  refine ev_n (fr' := (4, [some (vr 9), some (vi 0), some (vi 0)], [])) (S' := MS I J cc ss) 4 rfl ?_
  exact lp_allItems_9 X I J cc ss hI hwi 0 0 (by have := hwi.1; omega) rfl
theorem lp_allUses_r (X : AX) (I J : Nat → Nat → Int) (cc ss : Nat) {g : F1} (hg : J 136 = g) (hwi : WI g) (k : Nat) (z : Int) (hk : (k : Int) ≤ g 308) (hz : z = sumF (fun r => g (19 * r + 309)) k) : Ev X k_X9_allUses (4, [some (vr 135), some (vi z), some (vi (k : Int))], []) (MS I J cc ss) (fun o T => o = .inl (some (vi (sumF (fun r => g (19 * r + 309)) (g 308).toNat))) ∧ T = MS I J cc ss) := by
  have hw2 := hwi.2.1
  have hw1 := hwi.1
  have hb := sumF_rng (f := (fun r => g (19 * r + 309))) (b := 6) k (fun i hi => by have := (hwi.2.2 i (by omega)); constructor <;> omega)
  have hq3 := hwi.2.2 k
  refine ev_n (fr' := (13, [some (vr 135), some (vi z), some (vi (k : Int))], [vi 308, vr 136, vl (k : Int)])) (S' := MS I J cc ss) 5 rfl ?_
  refine ev_laN (j := 308) (z := (g 308)) rfl rfl (by omega) (by omega) (congrFun hg _) ?_
  show Ev X k_X9_allUses (14, [some (vr 135), some (vi z), some (vi (k : Int))], [vl (g 308), vl (k : Int)]) (MS I J cc ss) _
  refine ev_lc (c := .ge) (off := 17) rfl rfl (by decide) (fun (g1 : (g 308) ≤ (k : Int)) => ?_) (fun (g1 : ¬ ((g 308) ≤ (k : Int))) => ?_)
  · show Ev X k_X9_allUses (32, [some (vr 135), some (vi z), some (vi (k : Int))], []) (MS I J cc ss) _
    refine ev_n (fr' := (33, [some (vr 135), some (vi z), some (vi (k : Int))], [vi z])) (S' := MS I J cc ss) 1 rfl ?_
    refine ev_r rfl rfl rfl ?_
    exact ⟨congrArg (fun z => Sum.inl (some (vi z))) (by rw [hz, show (g 308).toNat = k by omega]), rfl⟩
  · show Ev X k_X9_allUses (18, [some (vr 135), some (vi z), some (vi (k : Int))], []) (MS I J cc ss) _
    refine ev_n (fr' := (21, [some (vr 135), some (vi z), some (vi (k : Int))], [vi (k : Int), vr 135, vi z])) (S' := MS I J cc ss) 3 rfl ?_
    refine ev_cv rfl rfl rfl ⟨Nat.le_of_ble_eq_true rfl, Nat.le_of_ble_eq_true rfl⟩ (sp_usesOf_r X _ _ _ _ k hg hwi (by omega)) ?_
    show Ev X k_X9_allUses (24, [some (vr 135), some (vi z), some (vi (k : Int))], [vi (g (19 * k + 309)), vi z]) (MS I J cc ss) _
    refine ev_add (z := z + (g (19 * k + 309))) rfl (by omega) (by omega) (by omega) ?_
    show Ev X k_X9_allUses (25, [some (vr 135), some (vi z), some (vi (k : Int))], [vi (z + (g (19 * k + 309)))]) (MS I J cc ss) _
    refine ev_n (fr' := (26, [some (vr 135), some (vi (z + (g (19 * k + 309)))), some (vi (k : Int))], [])) (S' := MS I J cc ss) 1 rfl ?_
    refine ev_inc (z := (k : Int) + 1) rfl rfl (by omega) (by omega) (by omega) rfl ?_
    show Ev X k_X9_allUses (29, [some (vr 135), some (vi (z + (g (19 * k + 309)))), some (vi ((k : Int) + 1))], []) (MS I J cc ss) _
    refine ev_n (fr' := (4, [some (vr 135), some (vi (z + (g (19 * k + 309)))), some (vi ((k : Int) + 1))], [])) (S' := MS I J cc ss) 1 rfl ?_
    exact lp_allUses_r X I J cc ss hg hwi (k + 1) (z + (g (19 * k + 309))) (by omega) (by simp only [sumF]; omega)
termination_by (g 308).toNat - k
decreasing_by all_goals omega
theorem sp_allUses_r (X : AX) (I J : Nat → Nat → Int) (cc ss : Nat) {g : F1} (hg : J 136 = g) (hwi : WI g) : Ev X k_X9_allUses (0, [some (vr 135), none, none], []) (MS I J cc ss) (fun o T => o = .inl (some (vi (sumF (fun r => g (19 * r + 309)) (g 308).toNat))) ∧ T = MS I J cc ss) := by
  have hw2 := hwi.2.1
  have hw1 := hwi.1
  refine ev_n (fr' := (4, [some (vr 135), some (vi 0), some (vi 0)], [])) (S' := MS I J cc ss) 4 rfl ?_
  exact lp_allUses_r X I J cc ss hg hwi 0 0 (by have := hwi.1; omega) rfl
theorem lp_find_2 (X : AX) (I J : Nat → Nat → Int) (cc ss : Nat) {g : F1} (x : Int) (hS : SRep I 1 g) (hws : WS g) (k : Nat) (hk : (k : Int) ≤ g 0) (hq : ∀ q, q < k → g (2 * q + 1) ≠ x) : Ev X k_X5_find (2, [some (vr 2), some (vi x), some (vi (k : Int))], []) (MS I J cc ss) (fun o T => o = .inl (some (vi (fnd (fun r => g (2 * r + 1)) x (g 0).toNat 0))) ∧ T = MS I J cc ss) := by
  have hw1 := hws.2.1
  refine ev_n (fr' := (7, [some (vr 2), some (vi x), some (vi (k : Int))], [vi (I 2 2), vi (k : Int)])) (S' := MS I J cc ss) 3 rfl ?_
  refine ev_eqi (hS.1) ?_
  show Ev X k_X5_find (7, [some (vr 2), some (vi x), some (vi (k : Int))], [vi (g 0), vi (k : Int)]) (MS I J cc ss) _
  refine ev_ic (c := .ge) (off := 21) rfl (by decide) (fun (g1 : (g 0) ≤ (k : Int)) => ?_) (fun (g1 : ¬ ((g 0) ≤ (k : Int))) => ?_)
  · show Ev X k_X5_find (28, [some (vr 2), some (vi x), some (vi (k : Int))], []) (MS I J cc ss) _
    refine ev_n (fr' := (29, [some (vr 2), some (vi x), some (vi (k : Int))], [vi (-1)])) (S' := MS I J cc ss) 1 rfl ?_
    refine ev_r rfl rfl rfl ?_
    exact ⟨congrArg (fun z => Sum.inl (some (vi z))) (fnd_miss _ 0 (fun q _ h => hq q (by omega))).symm, rfl⟩
  · show Ev X k_X5_find (10, [some (vr 2), some (vi x), some (vi (k : Int))], []) (MS I J cc ss) _
    refine ev_n (fr' := (15, [some (vr 2), some (vi x), some (vi (k : Int))], [vi (k : Int), vr 3])) (S' := MS I J cc ss) 3 rfl ?_
    refine ev_iaN (j := k) (z := (g (2 * k + 1))) rfl rfl (by omega) (by omega) ((hS.2 _ (by omega)).1) ?_
    show Ev X k_X5_find (16, [some (vr 2), some (vi x), some (vi (k : Int))], [vi (g (2 * k + 1))]) (MS I J cc ss) _
    refine ev_n (fr' := (17, [some (vr 2), some (vi x), some (vi (k : Int))], [vi x, vi (g (2 * k + 1))])) (S' := MS I J cc ss) 1 rfl ?_
    refine ev_ic (c := .ne) (off := 5) rfl (by decide) (fun (g2 : (g (2 * k + 1)) ≠ x) => ?_) (fun (g2 : ¬ ((g (2 * k + 1)) ≠ x)) => ?_)
    · show Ev X k_X5_find (22, [some (vr 2), some (vi x), some (vi (k : Int))], []) (MS I J cc ss) _
      refine ev_inc (z := (k : Int) + 1) rfl rfl (by omega) (by omega) (by omega) rfl ?_
      show Ev X k_X5_find (25, [some (vr 2), some (vi x), some (vi ((k : Int) + 1))], []) (MS I J cc ss) _
      refine ev_n (fr' := (2, [some (vr 2), some (vi x), some (vi ((k : Int) + 1))], [])) (S' := MS I J cc ss) 1 rfl ?_
      exact lp_find_2 X I J cc ss x hS hws (k + 1) (by omega) (nlt_succ hq g2)
    · show Ev X k_X5_find (20, [some (vr 2), some (vi x), some (vi (k : Int))], []) (MS I J cc ss) _
      refine ev_n (fr' := (21, [some (vr 2), some (vi x), some (vi (k : Int))], [vi (k : Int)])) (S' := MS I J cc ss) 1 rfl ?_
      refine ev_r rfl rfl rfl ?_
      exact ⟨congrArg (fun z => Sum.inl (some (vi z))) (fnd_hit (by omega) _ 0 (fun q _ h => hq q h) (by omega) (by omega)).symm, rfl⟩
termination_by (g 0).toNat - k
decreasing_by all_goals omega
theorem sp_find_2 (X : AX) (I J : Nat → Nat → Int) (cc ss : Nat) {g : F1} (x : Int) (hS : SRep I 1 g) (hws : WS g) : Ev X k_X5_find (0, [some (vr 2), some (vi x), none], []) (MS I J cc ss) (fun o T => o = .inl (some (vi (fnd (fun r => g (2 * r + 1)) x (g 0).toNat 0))) ∧ T = MS I J cc ss) := by
  have hw1 := hws.2.1
  refine ev_n (fr' := (2, [some (vr 2), some (vi x), some (vi 0)], [])) (S' := MS I J cc ss) 2 rfl ?_
  exact lp_find_2 X I J cc ss x hS hws 0 (by have := hws.1; omega) (fun q h => absurd h (by omega))
theorem lp_find_115 (X : AX) (I J : Nat → Nat → Int) (cc ss : Nat) {d : F1} (x : Int) (dS : SRep I 114 d) (hws : WS d) (k : Nat) (hk : (k : Int) ≤ d 0) (hq : ∀ q, q < k → d (2 * q + 1) ≠ x) : Ev X k_X5_find (2, [some (vr 115), some (vi x), some (vi (k : Int))], []) (MS I J cc ss) (fun o T => o = .inl (some (vi (fnd (fun r => d (2 * r + 1)) x (d 0).toNat 0))) ∧ T = MS I J cc ss) := by
  have hw1 := hws.2.1
  refine ev_n (fr' := (7, [some (vr 115), some (vi x), some (vi (k : Int))], [vi (I 115 2), vi (k : Int)])) (S' := MS I J cc ss) 3 rfl ?_
  refine ev_eqi (dS.1) ?_
  show Ev X k_X5_find (7, [some (vr 115), some (vi x), some (vi (k : Int))], [vi (d 0), vi (k : Int)]) (MS I J cc ss) _
  refine ev_ic (c := .ge) (off := 21) rfl (by decide) (fun (g1 : (d 0) ≤ (k : Int)) => ?_) (fun (g1 : ¬ ((d 0) ≤ (k : Int))) => ?_)
  · show Ev X k_X5_find (28, [some (vr 115), some (vi x), some (vi (k : Int))], []) (MS I J cc ss) _
    refine ev_n (fr' := (29, [some (vr 115), some (vi x), some (vi (k : Int))], [vi (-1)])) (S' := MS I J cc ss) 1 rfl ?_
    refine ev_r rfl rfl rfl ?_
    exact ⟨congrArg (fun z => Sum.inl (some (vi z))) (fnd_miss _ 0 (fun q _ h => hq q (by omega))).symm, rfl⟩
  · show Ev X k_X5_find (10, [some (vr 115), some (vi x), some (vi (k : Int))], []) (MS I J cc ss) _
    refine ev_n (fr' := (15, [some (vr 115), some (vi x), some (vi (k : Int))], [vi (k : Int), vr 116])) (S' := MS I J cc ss) 3 rfl ?_
    refine ev_iaN (j := k) (z := (d (2 * k + 1))) rfl rfl (by omega) (by omega) ((dS.2 _ (by omega)).1) ?_
    show Ev X k_X5_find (16, [some (vr 115), some (vi x), some (vi (k : Int))], [vi (d (2 * k + 1))]) (MS I J cc ss) _
    refine ev_n (fr' := (17, [some (vr 115), some (vi x), some (vi (k : Int))], [vi x, vi (d (2 * k + 1))])) (S' := MS I J cc ss) 1 rfl ?_
    refine ev_ic (c := .ne) (off := 5) rfl (by decide) (fun (g2 : (d (2 * k + 1)) ≠ x) => ?_) (fun (g2 : ¬ ((d (2 * k + 1)) ≠ x)) => ?_)
    · show Ev X k_X5_find (22, [some (vr 115), some (vi x), some (vi (k : Int))], []) (MS I J cc ss) _
      refine ev_inc (z := (k : Int) + 1) rfl rfl (by omega) (by omega) (by omega) rfl ?_
      show Ev X k_X5_find (25, [some (vr 115), some (vi x), some (vi ((k : Int) + 1))], []) (MS I J cc ss) _
      refine ev_n (fr' := (2, [some (vr 115), some (vi x), some (vi ((k : Int) + 1))], [])) (S' := MS I J cc ss) 1 rfl ?_
      exact lp_find_115 X I J cc ss x dS hws (k + 1) (by omega) (nlt_succ hq g2)
    · show Ev X k_X5_find (20, [some (vr 115), some (vi x), some (vi (k : Int))], []) (MS I J cc ss) _
      refine ev_n (fr' := (21, [some (vr 115), some (vi x), some (vi (k : Int))], [vi (k : Int)])) (S' := MS I J cc ss) 1 rfl ?_
      refine ev_r rfl rfl rfl ?_
      exact ⟨congrArg (fun z => Sum.inl (some (vi z))) (fnd_hit (by omega) _ 0 (fun q _ h => hq q h) (by omega) (by omega)).symm, rfl⟩
termination_by (d 0).toNat - k
decreasing_by all_goals omega
theorem sp_find_115 (X : AX) (I J : Nat → Nat → Int) (cc ss : Nat) {d : F1} (x : Int) (dS : SRep I 114 d) (hws : WS d) : Ev X k_X5_find (0, [some (vr 115), some (vi x), none], []) (MS I J cc ss) (fun o T => o = .inl (some (vi (fnd (fun r => d (2 * r + 1)) x (d 0).toNat 0))) ∧ T = MS I J cc ss) := by
  have hw1 := hws.2.1
  refine ev_n (fr' := (2, [some (vr 115), some (vi x), some (vi 0)], [])) (S' := MS I J cc ss) 2 rfl ?_
  exact lp_find_115 X I J cc ss x dS hws 0 (by have := hws.1; omega) (fun q h => absurd h (by omega))
theorem lp_hasSize_136 (X : AX) (I J : Nat → Nat → Int) (cc ss : Nat) {g : F1} (x : Int) (hg : J 136 = g) (hws : WS g) (k : Nat) (hk : (k : Int) ≤ g 0) (hq : ∀ q, q < k → g (2 * q + 1) ≠ x) : Ev X k_X9_hasSize (2, [some (vr 136), some (vi x), some (vi (k : Int))], []) (MS I J cc ss) (fun o T => o = .inl (some (vi (if 0 ≤ fnd (fun r => g (2 * r + 1)) x (g 0).toNat 0 then 1 else 0))) ∧ T = MS I J cc ss) := by
  have hw1 := hws.2.1
  refine ev_n (fr' := (6, [some (vr 136), some (vi x), some (vi (k : Int))], [vi 0, vr 136, vl (k : Int)])) (S' := MS I J cc ss) 4 rfl ?_
  refine ev_laN (j := 0) (z := (g 0)) rfl rfl (by omega) (by omega) (congrFun hg _) ?_
  show Ev X k_X9_hasSize (7, [some (vr 136), some (vi x), some (vi (k : Int))], [vl (g 0), vl (k : Int)]) (MS I J cc ss) _
  refine ev_lc (c := .ge) (off := 24) rfl rfl (by decide) (fun (g1 : (g 0) ≤ (k : Int)) => ?_) (fun (g1 : ¬ ((g 0) ≤ (k : Int))) => ?_)
  · show Ev X k_X9_hasSize (32, [some (vr 136), some (vi x), some (vi (k : Int))], []) (MS I J cc ss) _
    refine ev_n (fr' := (33, [some (vr 136), some (vi x), some (vi (k : Int))], [vi 0])) (S' := MS I J cc ss) 1 rfl ?_
    refine ev_r rfl rfl rfl ?_
    exact ⟨congrArg (fun z => Sum.inl (some (vi z))) ((if_neg (by rw [fnd_miss _ 0 (fun q _ h => hq q (by omega))]; omega)).symm), rfl⟩
  · show Ev X k_X9_hasSize (11, [some (vr 136), some (vi x), some (vi (k : Int))], []) (MS I J cc ss) _
    refine ev_n (fr' := (15, [some (vr 136), some (vi x), some (vi (k : Int))], [vi (k : Int), vi 2, vi 1, vr 136])) (S' := MS I J cc ss) 4 rfl ?_
    refine ev_mul (z := 2 * (k : Int)) rfl (by omega) (by omega) (by omega) ?_
    show Ev X k_X9_hasSize (16, [some (vr 136), some (vi x), some (vi (k : Int))], [vi (2 * (k : Int)), vi 1, vr 136]) (MS I J cc ss) _
    refine ev_add (z := 2 * (k : Int) + 1) rfl (by omega) (by omega) (by omega) ?_
    show Ev X k_X9_hasSize (17, [some (vr 136), some (vi x), some (vi (k : Int))], [vi (2 * (k : Int) + 1), vr 136]) (MS I J cc ss) _
    refine ev_laN (j := 2 * k + 1) (z := (g (2 * k + 1))) rfl rfl (by omega) (by omega) (congrFun hg _) ?_
    show Ev X k_X9_hasSize (18, [some (vr 136), some (vi x), some (vi (k : Int))], [vl (g (2 * k + 1))]) (MS I J cc ss) _
    refine ev_n (fr' := (20, [some (vr 136), some (vi x), some (vi (k : Int))], [vl x, vl (g (2 * k + 1))])) (S' := MS I J cc ss) 2 rfl ?_
    refine ev_lc (c := .ne) (off := 5) rfl rfl (by decide) (fun (g2 : (g (2 * k + 1)) ≠ x) => ?_) (fun (g2 : ¬ ((g (2 * k + 1)) ≠ x)) => ?_)
    · show Ev X k_X9_hasSize (26, [some (vr 136), some (vi x), some (vi (k : Int))], []) (MS I J cc ss) _
      refine ev_inc (z := (k : Int) + 1) rfl rfl (by omega) (by omega) (by omega) rfl ?_
      show Ev X k_X9_hasSize (29, [some (vr 136), some (vi x), some (vi ((k : Int) + 1))], []) (MS I J cc ss) _
      refine ev_n (fr' := (2, [some (vr 136), some (vi x), some (vi ((k : Int) + 1))], [])) (S' := MS I J cc ss) 1 rfl ?_
      exact lp_hasSize_136 X I J cc ss x hg hws (k + 1) (by omega) (nlt_succ hq g2)
    · show Ev X k_X9_hasSize (24, [some (vr 136), some (vi x), some (vi (k : Int))], []) (MS I J cc ss) _
      refine ev_n (fr' := (25, [some (vr 136), some (vi x), some (vi (k : Int))], [vi 1])) (S' := MS I J cc ss) 1 rfl ?_
      refine ev_r rfl rfl rfl ?_
      exact ⟨congrArg (fun z => Sum.inl (some (vi z))) ((if_pos (by rw [fnd_hit (f := fun r => g (2 * r + 1)) (Decidable.of_not_not g2) _ 0 (fun q _ h => hq q h) (by omega) (by omega)]; omega)).symm), rfl⟩
termination_by (g 0).toNat - k
decreasing_by all_goals omega
theorem sp_hasSize_136 (X : AX) (I J : Nat → Nat → Int) (cc ss : Nat) {g : F1} (x : Int) (hg : J 136 = g) (hws : WS g) : Ev X k_X9_hasSize (0, [some (vr 136), some (vi x), none], []) (MS I J cc ss) (fun o T => o = .inl (some (vi (if 0 ≤ fnd (fun r => g (2 * r + 1)) x (g 0).toNat 0 then 1 else 0))) ∧ T = MS I J cc ss) := by
  have hw1 := hws.2.1
  refine ev_n (fr' := (2, [some (vr 136), some (vi x), some (vi 0)], [])) (S' := MS I J cc ss) 2 rfl ?_
  exact lp_hasSize_136 X I J cc ss x hg hws 0 (by have := hws.1; omega) (fun q h => absurd h (by omega))
theorem lp_hasSize_137 (X : AX) (I J : Nat → Nat → Int) (cc ss : Nat) {d : F1} (x : Int) (hd : J 137 = d) (hws : WS d) (k : Nat) (hk : (k : Int) ≤ d 0) (hq : ∀ q, q < k → d (2 * q + 1) ≠ x) : Ev X k_X9_hasSize (2, [some (vr 137), some (vi x), some (vi (k : Int))], []) (MS I J cc ss) (fun o T => o = .inl (some (vi (if 0 ≤ fnd (fun r => d (2 * r + 1)) x (d 0).toNat 0 then 1 else 0))) ∧ T = MS I J cc ss) := by
  have hw1 := hws.2.1
  refine ev_n (fr' := (6, [some (vr 137), some (vi x), some (vi (k : Int))], [vi 0, vr 137, vl (k : Int)])) (S' := MS I J cc ss) 4 rfl ?_
  refine ev_laN (j := 0) (z := (d 0)) rfl rfl (by omega) (by omega) (congrFun hd _) ?_
  show Ev X k_X9_hasSize (7, [some (vr 137), some (vi x), some (vi (k : Int))], [vl (d 0), vl (k : Int)]) (MS I J cc ss) _
  refine ev_lc (c := .ge) (off := 24) rfl rfl (by decide) (fun (g1 : (d 0) ≤ (k : Int)) => ?_) (fun (g1 : ¬ ((d 0) ≤ (k : Int))) => ?_)
  · show Ev X k_X9_hasSize (32, [some (vr 137), some (vi x), some (vi (k : Int))], []) (MS I J cc ss) _
    refine ev_n (fr' := (33, [some (vr 137), some (vi x), some (vi (k : Int))], [vi 0])) (S' := MS I J cc ss) 1 rfl ?_
    refine ev_r rfl rfl rfl ?_
    exact ⟨congrArg (fun z => Sum.inl (some (vi z))) ((if_neg (by rw [fnd_miss _ 0 (fun q _ h => hq q (by omega))]; omega)).symm), rfl⟩
  · show Ev X k_X9_hasSize (11, [some (vr 137), some (vi x), some (vi (k : Int))], []) (MS I J cc ss) _
    refine ev_n (fr' := (15, [some (vr 137), some (vi x), some (vi (k : Int))], [vi (k : Int), vi 2, vi 1, vr 137])) (S' := MS I J cc ss) 4 rfl ?_
    refine ev_mul (z := 2 * (k : Int)) rfl (by omega) (by omega) (by omega) ?_
    show Ev X k_X9_hasSize (16, [some (vr 137), some (vi x), some (vi (k : Int))], [vi (2 * (k : Int)), vi 1, vr 137]) (MS I J cc ss) _
    refine ev_add (z := 2 * (k : Int) + 1) rfl (by omega) (by omega) (by omega) ?_
    show Ev X k_X9_hasSize (17, [some (vr 137), some (vi x), some (vi (k : Int))], [vi (2 * (k : Int) + 1), vr 137]) (MS I J cc ss) _
    refine ev_laN (j := 2 * k + 1) (z := (d (2 * k + 1))) rfl rfl (by omega) (by omega) (congrFun hd _) ?_
    show Ev X k_X9_hasSize (18, [some (vr 137), some (vi x), some (vi (k : Int))], [vl (d (2 * k + 1))]) (MS I J cc ss) _
    refine ev_n (fr' := (20, [some (vr 137), some (vi x), some (vi (k : Int))], [vl x, vl (d (2 * k + 1))])) (S' := MS I J cc ss) 2 rfl ?_
    refine ev_lc (c := .ne) (off := 5) rfl rfl (by decide) (fun (g2 : (d (2 * k + 1)) ≠ x) => ?_) (fun (g2 : ¬ ((d (2 * k + 1)) ≠ x)) => ?_)
    · show Ev X k_X9_hasSize (26, [some (vr 137), some (vi x), some (vi (k : Int))], []) (MS I J cc ss) _
      refine ev_inc (z := (k : Int) + 1) rfl rfl (by omega) (by omega) (by omega) rfl ?_
      show Ev X k_X9_hasSize (29, [some (vr 137), some (vi x), some (vi ((k : Int) + 1))], []) (MS I J cc ss) _
      refine ev_n (fr' := (2, [some (vr 137), some (vi x), some (vi ((k : Int) + 1))], [])) (S' := MS I J cc ss) 1 rfl ?_
      exact lp_hasSize_137 X I J cc ss x hd hws (k + 1) (by omega) (nlt_succ hq g2)
    · show Ev X k_X9_hasSize (24, [some (vr 137), some (vi x), some (vi (k : Int))], []) (MS I J cc ss) _
      refine ev_n (fr' := (25, [some (vr 137), some (vi x), some (vi (k : Int))], [vi 1])) (S' := MS I J cc ss) 1 rfl ?_
      refine ev_r rfl rfl rfl ?_
      exact ⟨congrArg (fun z => Sum.inl (some (vi z))) ((if_pos (by rw [fnd_hit (f := fun r => d (2 * r + 1)) (Decidable.of_not_not g2) _ 0 (fun q _ h => hq q h) (by omega) (by omega)]; omega)).symm), rfl⟩
termination_by (d 0).toNat - k
decreasing_by all_goals omega
theorem sp_hasSize_137 (X : AX) (I J : Nat → Nat → Int) (cc ss : Nat) {d : F1} (x : Int) (hd : J 137 = d) (hws : WS d) : Ev X k_X9_hasSize (0, [some (vr 137), some (vi x), none], []) (MS I J cc ss) (fun o T => o = .inl (some (vi (if 0 ≤ fnd (fun r => d (2 * r + 1)) x (d 0).toNat 0 then 1 else 0))) ∧ T = MS I J cc ss) := by
  have hw1 := hws.2.1
  refine ev_n (fr' := (2, [some (vr 137), some (vi x), some (vi 0)], [])) (S' := MS I J cc ss) 2 rfl ?_
  exact lp_hasSize_137 X I J cc ss x hd hws 0 (by have := hws.1; omega) (fun q h => absurd h (by omega))
