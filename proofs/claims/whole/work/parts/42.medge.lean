/-! COUNTING AND EDGES, the reference (printed by gen/g42.py) -/
theorem DM.cnt {I : F2} {D : Nat → Nat → Bool} (h : DM I D) : sumF (fun q => if I 140 q ≠ 0 then 1 else 0) 1024 = cntB D := by
  rw [show (1024 : Nat) = 32 * 32 by decide, sumF_blk]
  unfold cntB
  refine sumF_congr 32 (fun y hy => sumF_congr 32 (fun x hx => ?_))
  show (if I 140 (32 * y + x) ≠ 0 then (1 : Int) else 0) = _
  rw [h y x hy hx]
  cases D y x <;> rfl
theorem ind_rng {f : Nat → Prop} (d : ∀ n, Decidable (f n)) (k : Nat) : 0 ≤ sumF (fun q => if f q then 1 else 0) k ∧ sumF (fun q => if f q then 1 else 0) k ≤ k := by
  have h := sumF_rng (f := fun q => if f q then (1 : Int) else 0) (b := 1) k (fun i _ => by by_cases h : f i <;> simp [h])
  omega
theorem div_lit {x n : Int} (hn : 0 < n ∧ n ≤ 1000) (h : 0 ≤ x ∧ x ≤ 100000) : opI (· / ·) x n = x / n := by
  rw [div_I ⟨by omega, by omega⟩ ⟨by omega, by omega⟩ (by omega), tdiv_pos hn.1 h.1]
/-- the reference's second drawing -/
def DO (I : F2) (D : Nat → Nat → Bool) : Prop := ∀ y x, y < 32 → x < 32 → I 141 (32 * y + x) = if D y x then 1 else 0
theorem lp_inkNow (X : AX) (I J : Nat → Nat → Int) (cc ss : Nat) {D : Nat → Nat → Bool} (hD : DM I D) (k : Nat) (z : Int) (hk : k ≤ 1024) (hz : z = sumF (fun q => if I 140 q ≠ 0 then 1 else 0) k) : Ev X k_X9_inkNow (4, [some (vr 135), some (vi z), some (vi (k : Int))], []) (MS I J cc ss) (fun o T => o = .inl (some (vi (cntB D))) ∧ T = MS I J cc ss) := by
  have hb := ind_rng (f := fun q => I 140 q ≠ 0) (fun _ => inferInstance) k
  refine ev_n (fr' := (8, [some (vr 135), some (vi z), some (vi (k : Int))], [vi 1024, vi (k : Int)])) (S' := MS I J cc ss) 2 rfl ?_
  refine ev_ic (c := .ge) (off := 26) rfl (by decide) (fun (g1 : 1024 ≤ (k : Int)) => ?_) (fun (g1 : ¬ (1024 ≤ (k : Int))) => ?_)
  · show Ev X k_X9_inkNow (34, [some (vr 135), some (vi z), some (vi (k : Int))], []) (MS I J cc ss) _
    refine ev_n (fr' := (35, [some (vr 135), some (vi z), some (vi (k : Int))], [vi z])) (S' := MS I J cc ss) 1 rfl ?_
    refine ev_r rfl rfl rfl ?_
    exact ⟨congrArg (fun z => Sum.inl (some (vi z))) (by rw [hz, ← hD.cnt, show k = 1024 by omega]), rfl⟩
  · show Ev X k_X9_inkNow (11, [some (vr 135), some (vi z), some (vi (k : Int))], []) (MS I J cc ss) _
    refine ev_n (fr' := (17, [some (vr 135), some (vi z), some (vi (k : Int))], [vi (k : Int), vr 140, vi z])) (S' := MS I J cc ss) 4 rfl ?_
    refine ev_baN (j := k) (z := (I 140 k)) rfl rfl (by omega) (by omega) (rfl) ?_
    show Ev X k_X9_inkNow (18, [some (vr 135), some (vi z), some (vi (k : Int))], [vi (I 140 k), vi z]) (MS I J cc ss) _
    refine ev_if (c := .eq) (off := 7) rfl (by decide) (fun (g2 : (I 140 k) = 0) => ?_) (fun (g2 : ¬ ((I 140 k) = 0)) => ?_)
    · show Ev X k_X9_inkNow (25, [some (vr 135), some (vi z), some (vi (k : Int))], [vi z]) (MS I J cc ss) _
      refine ev_n (fr' := (26, [some (vr 135), some (vi z), some (vi (k : Int))], [vi 0, vi z])) (S' := MS I J cc ss) 1 rfl ?_
      refine ev_add (z := z) rfl (by omega) (by omega) (by omega) ?_
      show Ev X k_X9_inkNow (27, [some (vr 135), some (vi z), some (vi (k : Int))], [vi z]) (MS I J cc ss) _
      refine ev_n (fr' := (28, [some (vr 135), some (vi z), some (vi (k : Int))], [])) (S' := MS I J cc ss) 1 rfl ?_
      refine ev_inc (z := (k : Int) + 1) rfl rfl (by omega) (by omega) (by omega) rfl ?_
      show Ev X k_X9_inkNow (31, [some (vr 135), some (vi z), some (vi ((k : Int) + 1))], []) (MS I J cc ss) _
      refine ev_n (fr' := (4, [some (vr 135), some (vi z), some (vi ((k : Int) + 1))], [])) (S' := MS I J cc ss) 1 rfl ?_
      exact lp_inkNow X I J cc ss hD (k + 1) (z) (by omega) (by rw [hz]; show _ = sumF _ k + (if I 140 k ≠ 0 then 1 else 0); first | rw [if_pos (by omega)] | rw [if_neg (by omega), Int.add_zero])
    · show Ev X k_X9_inkNow (21, [some (vr 135), some (vi z), some (vi (k : Int))], [vi z]) (MS I J cc ss) _
      refine ev_n (fr' := (26, [some (vr 135), some (vi z), some (vi (k : Int))], [vi 1, vi z])) (S' := MS I J cc ss) 2 rfl ?_
      refine ev_add (z := z + 1) rfl (by omega) (by omega) (by omega) ?_
      show Ev X k_X9_inkNow (27, [some (vr 135), some (vi z), some (vi (k : Int))], [vi (z + 1)]) (MS I J cc ss) _
      refine ev_n (fr' := (28, [some (vr 135), some (vi (z + 1)), some (vi (k : Int))], [])) (S' := MS I J cc ss) 1 rfl ?_
      refine ev_inc (z := (k : Int) + 1) rfl rfl (by omega) (by omega) (by omega) rfl ?_
      show Ev X k_X9_inkNow (31, [some (vr 135), some (vi (z + 1)), some (vi ((k : Int) + 1))], []) (MS I J cc ss) _
      refine ev_n (fr' := (4, [some (vr 135), some (vi (z + 1)), some (vi ((k : Int) + 1))], [])) (S' := MS I J cc ss) 1 rfl ?_
      exact lp_inkNow X I J cc ss hD (k + 1) (z + 1) (by omega) (by rw [hz]; show _ = sumF _ k + (if I 140 k ≠ 0 then 1 else 0); first | rw [if_pos (by omega)] | rw [if_neg (by omega), Int.add_zero])
termination_by 1024 - k
decreasing_by all_goals omega
theorem sp_inkNow (X : AX) (I J : Nat → Nat → Int) (cc ss : Nat) {D : Nat → Nat → Bool} (hD : DM I D) : Ev X k_X9_inkNow (0, [some (vr 135), none, none], []) (MS I J cc ss) (fun o T => o = .inl (some (vi (cntB D))) ∧ T = MS I J cc ss) := by
  refine ev_n (fr' := (4, [some (vr 135), some (vi 0), some (vi 0)], [])) (S' := MS I J cc ss) 4 rfl ?_
  exact lp_inkNow X I J cc ss hD 0 0 (by omega) rfl
theorem diff_cnt {I : F2} {D D2 : Nat → Nat → Bool} (h : DM I D) (h2 : DO I D2) : sumF (fun q => if I 140 q = I 141 q then 0 else 1) 1024 = cntB (fun y x => D y x ^^ D2 y x) := by
  rw [show (1024 : Nat) = 32 * 32 by decide, sumF_blk]
  unfold cntB
  refine sumF_congr 32 (fun y hy => sumF_congr 32 (fun x hx => ?_))
  show (if I 140 (32 * y + x) = I 141 (32 * y + x) then (0 : Int) else 1) = _
  rw [h y x hy hx, h2 y x hy hx]
  show _ = if (D y x ^^ D2 y x) = true then (1 : Int) else 0
  cases D y x <;> cases D2 y x <;> rfl
theorem lp_differs (X : AX) (I J : Nat → Nat → Int) (cc ss : Nat) {D D2 : Nat → Nat → Bool} (hD : DM I D) (hE : DO I D2) (k : Nat) (z : Int) (hk : k ≤ 1024) (hz : z = sumF (fun q => if I 140 q = I 141 q then 0 else 1) k) : Ev X k_X9_differs (4, [some (vr 135), some (vi z), some (vi (k : Int))], []) (MS I J cc ss) (fun o T => o = .inl (some (vi (cntB (fun y x => D y x ^^ D2 y x)))) ∧ T = MS I J cc ss) := by
  have hb := sumF_rng (f := (fun q => if I 140 q = I 141 q then 0 else 1)) (b := 1) k (fun i _ => by by_cases h : I 140 i = I 141 i <;> simp [h])
  refine ev_n (fr' := (8, [some (vr 135), some (vi z), some (vi (k : Int))], [vi 1024, vi (k : Int)])) (S' := MS I J cc ss) 2 rfl ?_
  refine ev_ic (c := .ge) (off := 32) rfl (by decide) (fun (g1 : 1024 ≤ (k : Int)) => ?_) (fun (g1 : ¬ (1024 ≤ (k : Int))) => ?_)
  · show Ev X k_X9_differs (40, [some (vr 135), some (vi z), some (vi (k : Int))], []) (MS I J cc ss) _
    refine ev_n (fr' := (41, [some (vr 135), some (vi z), some (vi (k : Int))], [vi z])) (S' := MS I J cc ss) 1 rfl ?_
    refine ev_r rfl rfl rfl ?_
    exact ⟨congrArg (fun z => Sum.inl (some (vi z))) (by rw [hz, show k = 1024 by omega]; exact diff_cnt hD hE), rfl⟩
  · show Ev X k_X9_differs (11, [some (vr 135), some (vi z), some (vi (k : Int))], []) (MS I J cc ss) _
    refine ev_n (fr' := (17, [some (vr 135), some (vi z), some (vi (k : Int))], [vi (k : Int), vr 140, vi z])) (S' := MS I J cc ss) 4 rfl ?_
    refine ev_baN (j := k) (z := (I 140 k)) rfl rfl (by omega) (by omega) (rfl) ?_
    show Ev X k_X9_differs (18, [some (vr 135), some (vi z), some (vi (k : Int))], [vi (I 140 k), vi z]) (MS I J cc ss) _
    refine ev_n (fr' := (23, [some (vr 135), some (vi z), some (vi (k : Int))], [vi (k : Int), vr 141, vi (I 140 k), vi z])) (S' := MS I J cc ss) 3 rfl ?_
    refine ev_baN (j := k) (z := (I 141 k)) rfl rfl (by omega) (by omega) (rfl) ?_
    show Ev X k_X9_differs (24, [some (vr 135), some (vi z), some (vi (k : Int))], [vi (I 141 k), vi (I 140 k), vi z]) (MS I J cc ss) _
    refine ev_ic (c := .ne) (off := 7) rfl (by decide) (fun (g2 : (I 140 k) ≠ (I 141 k)) => ?_) (fun (g2 : ¬ ((I 140 k) ≠ (I 141 k))) => ?_)
    · show Ev X k_X9_differs (31, [some (vr 135), some (vi z), some (vi (k : Int))], [vi z]) (MS I J cc ss) _
      refine ev_n (fr' := (32, [some (vr 135), some (vi z), some (vi (k : Int))], [vi 1, vi z])) (S' := MS I J cc ss) 1 rfl ?_
      refine ev_add (z := z + 1) rfl (by omega) (by omega) (by omega) ?_
      show Ev X k_X9_differs (33, [some (vr 135), some (vi z), some (vi (k : Int))], [vi (z + 1)]) (MS I J cc ss) _
      refine ev_n (fr' := (34, [some (vr 135), some (vi (z + 1)), some (vi (k : Int))], [])) (S' := MS I J cc ss) 1 rfl ?_
      refine ev_inc (z := (k : Int) + 1) rfl rfl (by omega) (by omega) (by omega) rfl ?_
      show Ev X k_X9_differs (37, [some (vr 135), some (vi (z + 1)), some (vi ((k : Int) + 1))], []) (MS I J cc ss) _
      refine ev_n (fr' := (4, [some (vr 135), some (vi (z + 1)), some (vi ((k : Int) + 1))], [])) (S' := MS I J cc ss) 1 rfl ?_
      exact lp_differs X I J cc ss hD hE (k + 1) (z + 1) (by omega) (by rw [hz]; show _ = sumF _ k + (if I 140 k = I 141 k then 0 else 1); first | rw [if_pos (by omega), Int.add_zero] | rw [if_neg (by omega)])
    · show Ev X k_X9_differs (27, [some (vr 135), some (vi z), some (vi (k : Int))], [vi z]) (MS I J cc ss) _
      refine ev_n (fr' := (32, [some (vr 135), some (vi z), some (vi (k : Int))], [vi 0, vi z])) (S' := MS I J cc ss) 2 rfl ?_
      refine ev_add (z := z) rfl (by omega) (by omega) (by omega) ?_
      show Ev X k_X9_differs (33, [some (vr 135), some (vi z), some (vi (k : Int))], [vi z]) (MS I J cc ss) _
      refine ev_n (fr' := (34, [some (vr 135), some (vi z), some (vi (k : Int))], [])) (S' := MS I J cc ss) 1 rfl ?_
      refine ev_inc (z := (k : Int) + 1) rfl rfl (by omega) (by omega) (by omega) rfl ?_
      show Ev X k_X9_differs (37, [some (vr 135), some (vi z), some (vi ((k : Int) + 1))], []) (MS I J cc ss) _
      refine ev_n (fr' := (4, [some (vr 135), some (vi z), some (vi ((k : Int) + 1))], [])) (S' := MS I J cc ss) 1 rfl ?_
      exact lp_differs X I J cc ss hD hE (k + 1) (z) (by omega) (by rw [hz]; show _ = sumF _ k + (if I 140 k = I 141 k then 0 else 1); first | rw [if_pos (by omega), Int.add_zero] | rw [if_neg (by omega)])
termination_by 1024 - k
decreasing_by all_goals omega
theorem sp_differs (X : AX) (I J : Nat → Nat → Int) (cc ss : Nat) {D D2 : Nat → Nat → Bool} (hD : DM I D) (hE : DO I D2) : Ev X k_X9_differs (0, [some (vr 135), none, none], []) (MS I J cc ss) (fun o T => o = .inl (some (vi (cntB (fun y x => D y x ^^ D2 y x)))) ∧ T = MS I J cc ss) := by
  refine ev_n (fr' := (4, [some (vr 135), some (vi 0), some (vi 0)], [])) (S' := MS I J cc ss) 4 rfl ?_
  exact lp_differs X I J cc ss hD hE 0 0 (by omega) rfl
def onlyO (I I' : F2) : Prop := ∀ a, a ≠ 141 → I' a = I a
theorem lp_setsAside (X : AX) (I J : Nat → Nat → Int) (cc ss : Nat) (I0 : F2) {D : Nat → Nat → Bool} (hD : DM I0 D) (k : Nat) (hk : k ≤ 1024) (hO : onlyO I0 I) (hZ : ∀ q, q < k → I 141 q = I0 140 q) : Ev X k_X9_setsAside (2, [some (vr 135), some (vi (k : Int))], []) (MS I J cc ss) (PV cc ss none (fun I' J' => J' = J ∧ onlyO I0 I' ∧ DO I' D)) := by
  refine ev_n (fr' := (6, [some (vr 135), some (vi (k : Int))], [vi 1024, vi (k : Int)])) (S' := MS I J cc ss) 2 rfl ?_
  refine ev_ic (c := .ge) (off := 21) rfl (by decide) (fun (g1 : 1024 ≤ (k : Int)) => ?_) (fun (g1 : ¬ (1024 ≤ (k : Int))) => ?_)
  · show Ev X k_X9_setsAside (27, [some (vr 135), some (vi (k : Int))], []) (MS I J cc ss) _
    refine ev_r rfl rfl rfl ?_
    exact ⟨_, _, rfl, rfl, rfl, hO, fun y x hy hx => by rw [hZ _ (by omega)]; exact hD y x hy hx⟩
  · show Ev X k_X9_setsAside (9, [some (vr 135), some (vi (k : Int))], []) (MS I J cc ss) _
    refine ev_n (fr' := (19, [some (vr 135), some (vi (k : Int))], [vi (k : Int), vr 140, vi (k : Int), vr 141])) (S' := MS I J cc ss) 6 rfl ?_
    refine ev_baN (j := k) (z := (I 140 k)) rfl rfl (by omega) (by omega) (rfl) ?_
    show Ev X k_X9_setsAside (20, [some (vr 135), some (vi (k : Int))], [vi (I 140 k), vi (k : Int), vr 141]) (MS I J cc ss) _
    refine ev_basN (j := k) rfl rfl (by omega) (by omega) (by
        rw [hO 140 (by decide), show k = 32 * (k / 32) + k % 32 by omega, hD (k / 32) (k % 32) (by omega) (by omega)]
        cases D (k / 32) (k % 32) <;> simp) ?_
    show Ev X k_X9_setsAside (21, [some (vr 135), some (vi (k : Int))], []) (MS (up2 I 141 k (I 140 k)) J cc ss) _
    refine ev_inc (z := (k : Int) + 1) rfl rfl (by omega) (by omega) (by omega) rfl ?_
    show Ev X k_X9_setsAside (24, [some (vr 135), some (vi ((k : Int) + 1))], []) (MS (up2 I 141 k (I 140 k)) J cc ss) _
    refine ev_n (fr' := (2, [some (vr 135), some (vi ((k : Int) + 1))], [])) (S' := MS (up2 I 141 k (I 140 k)) J cc ss) 1 rfl ?_
    exact lp_setsAside X _ _ cc ss I0 hD (k + 1) (by omega) (fun a ha => by rw [up2_row _ _ _ _ ha]; exact hO a ha) (fun q hq => by
      by_cases e1 : q = k
      · rw [e1, up2_same, hO 140 (by decide)]
      · rw [up2_ne2 _ _ _ _ e1]; exact hZ q (by omega))
termination_by 1024 - k
decreasing_by all_goals omega
theorem sp_setsAside (X : AX) (I J : Nat → Nat → Int) (cc ss : Nat) {D : Nat → Nat → Bool} (hD : DM I D) : Ev X k_X9_setsAside (0, [some (vr 135), none], []) (MS I J cc ss) (PV cc ss none (fun I' J' => J' = J ∧ onlyO I I' ∧ DO I' D)) := by
  refine ev_n (fr' := (2, [some (vr 135), some (vi 0)], [])) (S' := MS I J cc ss) 2 rfl ?_
  exact lp_setsAside X _ _ cc ss I hD 0 (by omega) (fun _ _ => rfl) (fun q h => absurd h (by omega))
def EIf (f : Nat → Int) (t : Nat → Nat) (k : Nat) (z : Int) : Prop := (z = -1 ∧ ∀ q, q < k → f q = 0) ∨ ∃ m, m < k ∧ f m ≠ 0 ∧ z = (t m : Int) ∧ ∀ q, q < k → f q ≠ 0 → t m ≤ t q
theorem EIf.skip {f : Nat → Int} {t : Nat → Nat} {k : Nat} {z : Int} (h : EIf f t k z) (hk : f k = 0) : EIf f t (k + 1) z := by
  rcases h with ⟨h1, h2⟩ | ⟨m, h1, h2, h3, h4⟩
  · exact Or.inl ⟨h1, nlt_succ h2 hk⟩
  · exact Or.inr ⟨m, by omega, h2, h3, nlt_succ h4 (fun q => absurd hk q)⟩
theorem EIf.keep {f : Nat → Int} {t : Nat → Nat} {k : Nat} {z : Int} (h : EIf f t k z) (hz : z ≠ -1) (hk : z ≤ (t k : Int)) : EIf f t (k + 1) z := by
  rcases h with ⟨h1, h2⟩ | ⟨m, h1, h2, h3, h4⟩
  · exact absurd h1 hz
  · exact Or.inr ⟨m, by omega, h2, h3, nlt_succ h4 (fun _ => by omega)⟩
theorem EIf.take {f : Nat → Int} {t : Nat → Nat} {k : Nat} {z : Int} (h : EIf f t k z) (hk : f k ≠ 0) (hz : z = -1 ∨ (t k : Int) ≤ z) : EIf f t (k + 1) (t k) := by
  refine Or.inr ⟨k, by omega, hk, rfl, nlt_succ (fun q hq hf => ?_) (fun _ => Nat.le_refl _)⟩
  rcases h with ⟨h1, h2⟩ | ⟨m, h1, h2, h3, h4⟩
  · exact absurd (h2 q hq) hf
  · have := h4 q hq hf
    omega
def EIl (f : Nat → Int) (t : Nat → Nat) (k : Nat) (z : Int) : Prop := (z = -1 ∧ ∀ q, q < k → f q = 0) ∨ ∃ m, m < k ∧ f m ≠ 0 ∧ z = (t m : Int) ∧ ∀ q, q < k → f q ≠ 0 → t q ≤ t m
theorem EIl.skip {f : Nat → Int} {t : Nat → Nat} {k : Nat} {z : Int} (h : EIl f t k z) (hk : f k = 0) : EIl f t (k + 1) z := by
  rcases h with ⟨h1, h2⟩ | ⟨m, h1, h2, h3, h4⟩
  · exact Or.inl ⟨h1, nlt_succ h2 hk⟩
  · exact Or.inr ⟨m, by omega, h2, h3, nlt_succ h4 (fun q => absurd hk q)⟩
theorem EIl.keep {f : Nat → Int} {t : Nat → Nat} {k : Nat} {z : Int} (h : EIl f t k z) (hz : z ≠ -1) (hk : (t k : Int) ≤ z) : EIl f t (k + 1) z := by
  rcases h with ⟨h1, h2⟩ | ⟨m, h1, h2, h3, h4⟩
  · exact absurd h1 hz
  · exact Or.inr ⟨m, by omega, h2, h3, nlt_succ h4 (fun _ => by omega)⟩
theorem EIl.take {f : Nat → Int} {t : Nat → Nat} {k : Nat} {z : Int} (h : EIl f t k z) (hk : f k ≠ 0) (hz : z = -1 ∨ z ≤ (t k : Int)) : EIl f t (k + 1) (t k) := by
  refine Or.inr ⟨k, by omega, hk, rfl, nlt_succ (fun q hq hf => ?_) (fun _ => Nat.le_refl _)⟩
  rcases h with ⟨h1, h2⟩ | ⟨m, h1, h2, h3, h4⟩
  · exact absurd (h2 q hq) hf
  · have := h4 q hq hf
    omega
theorem EIf.fin {f : Nat → Int} {t : Nat → Nat} {z : Int} {p : Nat → Bool} (h : EIf f t 1024 z) (h1 : ∀ q, q < 1024 → f q ≠ 0 → t q < 32 ∧ p (t q) = true) (h2 : ∀ c, c < 32 → p c = true → ∃ q, q < 1024 ∧ f q ≠ 0 ∧ t q = c) : z = firstF p := by
  rcases h with ⟨h3, h4⟩ | ⟨m, h3, h4, h5, h6⟩
  · rw [h3]
    exact (firstF_miss (fun c hc => by
      rw [← Bool.not_eq_true]; intro hp
      obtain ⟨q, q1, q2, q3⟩ := h2 c hc hp
      exact q2 (h4 q q1))).symm
  · rw [h5]
    refine (firstF_hit (h1 m h3 h4).1 (h1 m h3 h4).2 (fun c hc => ?_)).symm
    rw [← Bool.not_eq_true]; intro hp
    obtain ⟨q, q1, q2, q3⟩ := h2 c (by have := (h1 m h3 h4).1; omega) hp
    have := h6 q q1 q2
    omega
theorem EIl.fin {f : Nat → Int} {t : Nat → Nat} {z : Int} {p : Nat → Bool} (h : EIl f t 1024 z) (h1 : ∀ q, q < 1024 → f q ≠ 0 → t q < 32 ∧ p (t q) = true) (h2 : ∀ c, c < 32 → p c = true → ∃ q, q < 1024 ∧ f q ≠ 0 ∧ t q = c) : z = lastF p := by
  rcases h with ⟨h3, h4⟩ | ⟨m, h3, h4, h5, h6⟩
  · rw [h3]
    exact (lstN_miss 32 (fun c hc => by
      rw [← Bool.not_eq_true]; intro hp
      obtain ⟨q, q1, q2, q3⟩ := h2 c hc hp
      exact q2 (h4 q q1))).symm
  · rw [h5]
    refine (lstN_hit (h1 m h3 h4).2 32 (h1 m h3 h4).1 (fun c hc hc2 => ?_)).symm
    rw [← Bool.not_eq_true]; intro hp
    obtain ⟨q, q1, q2, q3⟩ := h2 c hc2 hp
    have := h6 q q1 q2
    omega
theorem DM.nz {I : F2} {D : Nat → Nat → Bool} (h : DM I D) {q : Nat} (hq : q < 1024) : I 140 q ≠ 0 ↔ D (q / 32) (q % 32) = true := by
  have := h (q / 32) (q % 32) (by omega) (by omega)
  rw [show 32 * (q / 32) + q % 32 = q by omega] at this
  rw [this]; cases D (q / 32) (q % 32) <;> simp
theorem DM.col1 {I : F2} {D : Nat → Nat → Bool} (h : DM I D) : ∀ q, q < 1024 → I 140 q ≠ 0 → q % 32 < 32 ∧ colB D (q % 32) = true := fun q hq hn => ⟨by omega, (orN_true 32).mpr ⟨q / 32, by omega, (h.nz hq).mp hn⟩⟩
theorem DM.col2 {I : F2} {D : Nat → Nat → Bool} (h : DM I D) : ∀ c, c < 32 → colB D c = true → ∃ q, q < 1024 ∧ I 140 q ≠ 0 ∧ q % 32 = c := by
  intro c hc hp
  obtain ⟨y, hy, h2⟩ := (orN_true 32).mp hp
  refine ⟨32 * y + c, by omega, (h.nz (by omega)).mpr ?_, by omega⟩
  rw [show (32 * y + c) / 32 = y by omega, show (32 * y + c) % 32 = c by omega]; exact h2
theorem DM.row1 {I : F2} {D : Nat → Nat → Bool} (h : DM I D) : ∀ q, q < 1024 → I 140 q ≠ 0 → q / 32 < 32 ∧ rowB D (q / 32) = true := fun q hq hn => ⟨by omega, (orN_true 32).mpr ⟨q % 32, by omega, (h.nz hq).mp hn⟩⟩
theorem DM.row2 {I : F2} {D : Nat → Nat → Bool} (h : DM I D) : ∀ c, c < 32 → rowB D c = true → ∃ q, q < 1024 ∧ I 140 q ≠ 0 ∧ q / 32 = c := by
  intro c hc hp
  obtain ⟨x, hx, h2⟩ := (orN_true 32).mp hp
  refine ⟨32 * c + x, by omega, (h.nz (by omega)).mpr ?_, by omega⟩
  rw [show (32 * c + x) / 32 = c by omega, show (32 * c + x) % 32 = x by omega]; exact h2
theorem lp_edge_00 (X : AX) (I J : Nat → Nat → Int) (cc ss : Nat) {D : Nat → Nat → Bool} (hD : DM I D) (k : Nat) (z : Int) (v5 : Option AV) (hk : k ≤ 1024) (hz : EIf (fun q => I 140 q) (fun q => q % 32) k z) : Ev X k_X9_edge (5, [some (vr 135), some (vi 0), some (vi 0), some (vi z), some (vi (k : Int)), v5], []) (MS I J cc ss) (fun o T => o = .inl (some (vi (firstF (colB D)))) ∧ T = MS I J cc ss) := by
  have hzr : -1 ≤ z ∧ z ≤ 2000 := by
    rcases hz with ⟨h1, -⟩ | ⟨m, h1, h2, h3, -⟩
    · omega
    · simp only at h3; omega
  refine ev_n (fr' := (10, [some (vr 135), some (vi 0), some (vi 0), some (vi z), some (vi (k : Int)), v5], [vi 1024, vi (k : Int)])) (S' := MS I J cc ss) 2 rfl ?_
  refine ev_ic (c := .ge) (off := 65) rfl (by decide) (fun (g1 : 1024 ≤ (k : Int)) => ?_) (fun (g1 : ¬ (1024 ≤ (k : Int))) => ?_)
  · show Ev X k_X9_edge (75, [some (vr 135), some (vi 0), some (vi 0), some (vi z), some (vi (k : Int)), v5], []) (MS I J cc ss) _
    refine ev_n (fr' := (76, [some (vr 135), some (vi 0), some (vi 0), some (vi z), some (vi (k : Int)), v5], [vi z])) (S' := MS I J cc ss) 1 rfl ?_
    refine ev_r rfl rfl rfl ?_
    have e : k = 1024 := by omega
    rw [e] at hz
    exact ⟨congrArg (fun z => Sum.inl (some (vi z))) (EIf.fin hz hD.col1 hD.col2), rfl⟩
  · show Ev X k_X9_edge (13, [some (vr 135), some (vi 0), some (vi 0), some (vi z), some (vi (k : Int)), v5], []) (MS I J cc ss) _
    refine ev_n (fr' := (30, [some (vr 135), some (vi 0), some (vi 0), some (vi z), some (vi (k : Int)), v5], [vi (opI fRem (k : Int) 32)])) (S' := MS I J cc ss) 5 rfl ?_
    refine ev_eqi (rem_I (by omega) (by omega)) ?_
    show Ev X k_X9_edge (30, [some (vr 135), some (vi 0), some (vi 0), some (vi z), some (vi (k : Int)), v5], [vi ((k : Int) % 32)]) (MS I J cc ss) _
    refine ev_n (fr' := (38, [some (vr 135), some (vi 0), some (vi 0), some (vi z), some (vi (k : Int)), some (vi ((k : Int) % 32))], [vi (k : Int), vr 140])) (S' := MS I J cc ss) 4 rfl ?_
    refine ev_baN (j := k) (z := (I 140 k)) rfl rfl (by omega) (by omega) (rfl) ?_
    show Ev X k_X9_edge (39, [some (vr 135), some (vi 0), some (vi 0), some (vi z), some (vi (k : Int)), some (vi ((k : Int) % 32))], [vi (I 140 k)]) (MS I J cc ss) _
    refine ev_if (c := .eq) (off := 30) rfl (by decide) (fun (g2 : (I 140 k) = 0) => ?_) (fun (g2 : ¬ ((I 140 k) = 0)) => ?_)
    · show Ev X k_X9_edge (69, [some (vr 135), some (vi 0), some (vi 0), some (vi z), some (vi (k : Int)), some (vi ((k : Int) % 32))], []) (MS I J cc ss) _
      refine ev_inc (z := (k : Int) + 1) rfl rfl (by omega) (by omega) (by omega) rfl ?_
      show Ev X k_X9_edge (72, [some (vr 135), some (vi 0), some (vi 0), some (vi z), some (vi ((k : Int) + 1)), some (vi ((k : Int) % 32))], []) (MS I J cc ss) _
      refine ev_n (fr' := (5, [some (vr 135), some (vi 0), some (vi 0), some (vi z), some (vi ((k : Int) + 1)), some (vi ((k : Int) % 32))], [])) (S' := MS I J cc ss) 1 rfl ?_
      exact lp_edge_00 X _ _ cc ss hD (k + 1) (z) _ (by omega) (by first | exact hz.skip g2 | exact hz.keep (by omega) (by show _ ≤ _; omega))
    · show Ev X k_X9_edge (42, [some (vr 135), some (vi 0), some (vi 0), some (vi z), some (vi (k : Int)), some (vi ((k : Int) % 32))], []) (MS I J cc ss) _
      refine ev_n (fr' := (44, [some (vr 135), some (vi 0), some (vi 0), some (vi z), some (vi (k : Int)), some (vi ((k : Int) % 32))], [vi (-1), vi z])) (S' := MS I J cc ss) 2 rfl ?_
      refine ev_ic (c := .eq) (off := 22) rfl (by decide) (fun (g3 : z = -1) => ?_) (fun (g3 : ¬ (z = -1)) => ?_)
      · show Ev X k_X9_edge (66, [some (vr 135), some (vi 0), some (vi 0), some (vi z), some (vi (k : Int)), some (vi ((k : Int) % 32))], []) (MS I J cc ss) _
        refine ev_n (fr' := (69, [some (vr 135), some (vi 0), some (vi 0), some (vi ((k : Int) % 32)), some (vi (k : Int)), some (vi ((k : Int) % 32))], [])) (S' := MS I J cc ss) 2 rfl ?_
        refine ev_inc (z := (k : Int) + 1) rfl rfl (by omega) (by omega) (by omega) rfl ?_
        show Ev X k_X9_edge (72, [some (vr 135), some (vi 0), some (vi 0), some (vi ((k : Int) % 32)), some (vi ((k : Int) + 1)), some (vi ((k : Int) % 32))], []) (MS I J cc ss) _
        refine ev_n (fr' := (5, [some (vr 135), some (vi 0), some (vi 0), some (vi ((k : Int) % 32)), some (vi ((k : Int) + 1)), some (vi ((k : Int) % 32))], [])) (S' := MS I J cc ss) 1 rfl ?_
        exact lp_edge_00 X _ _ cc ss hD (k + 1) (((k : Int) % 32)) _ (by omega) (by
          have h9 := hz.take (by omega) (by show z = -1 ∨ _ ≤ _; omega)
          rw [show ((k : Int) % 32) = (((fun q => q % 32) k : Nat) : Int) from rfl]; exact h9)
      · show Ev X k_X9_edge (47, [some (vr 135), some (vi 0), some (vi 0), some (vi z), some (vi (k : Int)), some (vi ((k : Int) % 32))], []) (MS I J cc ss) _
        refine ev_n (fr' := (63, [some (vr 135), some (vi 0), some (vi 0), some (vi z), some (vi (k : Int)), some (vi ((k : Int) % 32))], [vi z, vi ((k : Int) % 32)])) (S' := MS I J cc ss) 4 rfl ?_
        refine ev_ic (c := .ge) (off := 6) rfl (by decide) (fun (g4 : z ≤ ((k : Int) % 32)) => ?_) (fun (g4 : ¬ (z ≤ ((k : Int) % 32))) => ?_)
        · show Ev X k_X9_edge (69, [some (vr 135), some (vi 0), some (vi 0), some (vi z), some (vi (k : Int)), some (vi ((k : Int) % 32))], []) (MS I J cc ss) _
          refine ev_inc (z := (k : Int) + 1) rfl rfl (by omega) (by omega) (by omega) rfl ?_
          show Ev X k_X9_edge (72, [some (vr 135), some (vi 0), some (vi 0), some (vi z), some (vi ((k : Int) + 1)), some (vi ((k : Int) % 32))], []) (MS I J cc ss) _
          refine ev_n (fr' := (5, [some (vr 135), some (vi 0), some (vi 0), some (vi z), some (vi ((k : Int) + 1)), some (vi ((k : Int) % 32))], [])) (S' := MS I J cc ss) 1 rfl ?_
          exact lp_edge_00 X _ _ cc ss hD (k + 1) (z) _ (by omega) (by first | exact hz.skip g2 | exact hz.keep (by omega) (by show _ ≤ _; omega))
        · show Ev X k_X9_edge (66, [some (vr 135), some (vi 0), some (vi 0), some (vi z), some (vi (k : Int)), some (vi ((k : Int) % 32))], []) (MS I J cc ss) _
          refine ev_n (fr' := (69, [some (vr 135), some (vi 0), some (vi 0), some (vi ((k : Int) % 32)), some (vi (k : Int)), some (vi ((k : Int) % 32))], [])) (S' := MS I J cc ss) 2 rfl ?_
          refine ev_inc (z := (k : Int) + 1) rfl rfl (by omega) (by omega) (by omega) rfl ?_
          show Ev X k_X9_edge (72, [some (vr 135), some (vi 0), some (vi 0), some (vi ((k : Int) % 32)), some (vi ((k : Int) + 1)), some (vi ((k : Int) % 32))], []) (MS I J cc ss) _
          refine ev_n (fr' := (5, [some (vr 135), some (vi 0), some (vi 0), some (vi ((k : Int) % 32)), some (vi ((k : Int) + 1)), some (vi ((k : Int) % 32))], [])) (S' := MS I J cc ss) 1 rfl ?_
          exact lp_edge_00 X _ _ cc ss hD (k + 1) (((k : Int) % 32)) _ (by omega) (by
            have h9 := hz.take (by omega) (by show z = -1 ∨ _ ≤ _; omega)
            rw [show ((k : Int) % 32) = (((fun q => q % 32) k : Nat) : Int) from rfl]; exact h9)
termination_by 1024 - k
decreasing_by all_goals omega
theorem sp_edge_00 (X : AX) (I J : Nat → Nat → Int) (cc ss : Nat) {D : Nat → Nat → Bool} (hD : DM I D) : Ev X k_X9_edge (0, [some (vr 135), some (vi 0), some (vi 0), none, none, none], []) (MS I J cc ss) (fun o T => o = .inl (some (vi (firstF (colB D)))) ∧ T = MS I J cc ss) := by
  refine ev_n (fr' := (5, [some (vr 135), some (vi 0), some (vi 0), some (vi (-1)), some (vi 0), none], [])) (S' := MS I J cc ss) 4 rfl ?_
  exact lp_edge_00 X _ _ cc ss hD 0 (-1) _ (by omega) (Or.inl ⟨rfl, fun q h => absurd h (by omega)⟩)
theorem lp_edge_01 (X : AX) (I J : Nat → Nat → Int) (cc ss : Nat) {D : Nat → Nat → Bool} (hD : DM I D) (k : Nat) (z : Int) (v5 : Option AV) (hk : k ≤ 1024) (hz : EIl (fun q => I 140 q) (fun q => q % 32) k z) : Ev X k_X9_edge (5, [some (vr 135), some (vi 0), some (vi 1), some (vi z), some (vi (k : Int)), v5], []) (MS I J cc ss) (fun o T => o = .inl (some (vi (lastF (colB D)))) ∧ T = MS I J cc ss) := by
  have hzr : -1 ≤ z ∧ z ≤ 2000 := by
    rcases hz with ⟨h1, -⟩ | ⟨m, h1, h2, h3, -⟩
    · omega
    · simp only at h3; omega
  refine ev_n (fr' := (10, [some (vr 135), some (vi 0), some (vi 1), some (vi z), some (vi (k : Int)), v5], [vi 1024, vi (k : Int)])) (S' := MS I J cc ss) 2 rfl ?_
  refine ev_ic (c := .ge) (off := 65) rfl (by decide) (fun (g1 : 1024 ≤ (k : Int)) => ?_) (fun (g1 : ¬ (1024 ≤ (k : Int))) => ?_)
  · show Ev X k_X9_edge (75, [some (vr 135), some (vi 0), some (vi 1), some (vi z), some (vi (k : Int)), v5], []) (MS I J cc ss) _
    refine ev_n (fr' := (76, [some (vr 135), some (vi 0), some (vi 1), some (vi z), some (vi (k : Int)), v5], [vi z])) (S' := MS I J cc ss) 1 rfl ?_
    refine ev_r rfl rfl rfl ?_
    have e : k = 1024 := by omega
    rw [e] at hz
    exact ⟨congrArg (fun z => Sum.inl (some (vi z))) (EIl.fin hz hD.col1 hD.col2), rfl⟩
  · show Ev X k_X9_edge (13, [some (vr 135), some (vi 0), some (vi 1), some (vi z), some (vi (k : Int)), v5], []) (MS I J cc ss) _
    refine ev_n (fr' := (30, [some (vr 135), some (vi 0), some (vi 1), some (vi z), some (vi (k : Int)), v5], [vi (opI fRem (k : Int) 32)])) (S' := MS I J cc ss) 5 rfl ?_
    refine ev_eqi (rem_I (by omega) (by omega)) ?_
    show Ev X k_X9_edge (30, [some (vr 135), some (vi 0), some (vi 1), some (vi z), some (vi (k : Int)), v5], [vi ((k : Int) % 32)]) (MS I J cc ss) _
    refine ev_n (fr' := (38, [some (vr 135), some (vi 0), some (vi 1), some (vi z), some (vi (k : Int)), some (vi ((k : Int) % 32))], [vi (k : Int), vr 140])) (S' := MS I J cc ss) 4 rfl ?_
    refine ev_baN (j := k) (z := (I 140 k)) rfl rfl (by omega) (by omega) (rfl) ?_
    show Ev X k_X9_edge (39, [some (vr 135), some (vi 0), some (vi 1), some (vi z), some (vi (k : Int)), some (vi ((k : Int) % 32))], [vi (I 140 k)]) (MS I J cc ss) _
    refine ev_if (c := .eq) (off := 30) rfl (by decide) (fun (g2 : (I 140 k) = 0) => ?_) (fun (g2 : ¬ ((I 140 k) = 0)) => ?_)
    · show Ev X k_X9_edge (69, [some (vr 135), some (vi 0), some (vi 1), some (vi z), some (vi (k : Int)), some (vi ((k : Int) % 32))], []) (MS I J cc ss) _
      refine ev_inc (z := (k : Int) + 1) rfl rfl (by omega) (by omega) (by omega) rfl ?_
      show Ev X k_X9_edge (72, [some (vr 135), some (vi 0), some (vi 1), some (vi z), some (vi ((k : Int) + 1)), some (vi ((k : Int) % 32))], []) (MS I J cc ss) _
      refine ev_n (fr' := (5, [some (vr 135), some (vi 0), some (vi 1), some (vi z), some (vi ((k : Int) + 1)), some (vi ((k : Int) % 32))], [])) (S' := MS I J cc ss) 1 rfl ?_
      exact lp_edge_01 X _ _ cc ss hD (k + 1) (z) _ (by omega) (by first | exact hz.skip g2 | exact hz.keep (by omega) (by show _ ≤ _; omega))
    · show Ev X k_X9_edge (42, [some (vr 135), some (vi 0), some (vi 1), some (vi z), some (vi (k : Int)), some (vi ((k : Int) % 32))], []) (MS I J cc ss) _
      refine ev_n (fr' := (44, [some (vr 135), some (vi 0), some (vi 1), some (vi z), some (vi (k : Int)), some (vi ((k : Int) % 32))], [vi (-1), vi z])) (S' := MS I J cc ss) 2 rfl ?_
      refine ev_ic (c := .eq) (off := 22) rfl (by decide) (fun (g3 : z = -1) => ?_) (fun (g3 : ¬ (z = -1)) => ?_)
      · show Ev X k_X9_edge (66, [some (vr 135), some (vi 0), some (vi 1), some (vi z), some (vi (k : Int)), some (vi ((k : Int) % 32))], []) (MS I J cc ss) _
        refine ev_n (fr' := (69, [some (vr 135), some (vi 0), some (vi 1), some (vi ((k : Int) % 32)), some (vi (k : Int)), some (vi ((k : Int) % 32))], [])) (S' := MS I J cc ss) 2 rfl ?_
        refine ev_inc (z := (k : Int) + 1) rfl rfl (by omega) (by omega) (by omega) rfl ?_
        show Ev X k_X9_edge (72, [some (vr 135), some (vi 0), some (vi 1), some (vi ((k : Int) % 32)), some (vi ((k : Int) + 1)), some (vi ((k : Int) % 32))], []) (MS I J cc ss) _
        refine ev_n (fr' := (5, [some (vr 135), some (vi 0), some (vi 1), some (vi ((k : Int) % 32)), some (vi ((k : Int) + 1)), some (vi ((k : Int) % 32))], [])) (S' := MS I J cc ss) 1 rfl ?_
        exact lp_edge_01 X _ _ cc ss hD (k + 1) (((k : Int) % 32)) _ (by omega) (by
          have h9 := hz.take (by omega) (by show z = -1 ∨ _ ≤ _; omega)
          rw [show ((k : Int) % 32) = (((fun q => q % 32) k : Nat) : Int) from rfl]; exact h9)
      · show Ev X k_X9_edge (47, [some (vr 135), some (vi 0), some (vi 1), some (vi z), some (vi (k : Int)), some (vi ((k : Int) % 32))], []) (MS I J cc ss) _
        refine ev_n (fr' := (54, [some (vr 135), some (vi 0), some (vi 1), some (vi z), some (vi (k : Int)), some (vi ((k : Int) % 32))], [vi z, vi ((k : Int) % 32)])) (S' := MS I J cc ss) 4 rfl ?_
        refine ev_ic (c := .le) (off := 15) rfl (by decide) (fun (g4 : ((k : Int) % 32) ≤ z) => ?_) (fun (g4 : ¬ (((k : Int) % 32) ≤ z)) => ?_)
        · show Ev X k_X9_edge (69, [some (vr 135), some (vi 0), some (vi 1), some (vi z), some (vi (k : Int)), some (vi ((k : Int) % 32))], []) (MS I J cc ss) _
          refine ev_inc (z := (k : Int) + 1) rfl rfl (by omega) (by omega) (by omega) rfl ?_
          show Ev X k_X9_edge (72, [some (vr 135), some (vi 0), some (vi 1), some (vi z), some (vi ((k : Int) + 1)), some (vi ((k : Int) % 32))], []) (MS I J cc ss) _
          refine ev_n (fr' := (5, [some (vr 135), some (vi 0), some (vi 1), some (vi z), some (vi ((k : Int) + 1)), some (vi ((k : Int) % 32))], [])) (S' := MS I J cc ss) 1 rfl ?_
          exact lp_edge_01 X _ _ cc ss hD (k + 1) (z) _ (by omega) (by first | exact hz.skip g2 | exact hz.keep (by omega) (by show _ ≤ _; omega))
        · show Ev X k_X9_edge (57, [some (vr 135), some (vi 0), some (vi 1), some (vi z), some (vi (k : Int)), some (vi ((k : Int) % 32))], []) (MS I J cc ss) _
          refine ev_n (fr' := (69, [some (vr 135), some (vi 0), some (vi 1), some (vi ((k : Int) % 32)), some (vi (k : Int)), some (vi ((k : Int) % 32))], [])) (S' := MS I J cc ss) 3 rfl ?_
          refine ev_inc (z := (k : Int) + 1) rfl rfl (by omega) (by omega) (by omega) rfl ?_
          show Ev X k_X9_edge (72, [some (vr 135), some (vi 0), some (vi 1), some (vi ((k : Int) % 32)), some (vi ((k : Int) + 1)), some (vi ((k : Int) % 32))], []) (MS I J cc ss) _
          refine ev_n (fr' := (5, [some (vr 135), some (vi 0), some (vi 1), some (vi ((k : Int) % 32)), some (vi ((k : Int) + 1)), some (vi ((k : Int) % 32))], [])) (S' := MS I J cc ss) 1 rfl ?_
          exact lp_edge_01 X _ _ cc ss hD (k + 1) (((k : Int) % 32)) _ (by omega) (by
            have h9 := hz.take (by omega) (by show z = -1 ∨ _ ≤ _; omega)
            rw [show ((k : Int) % 32) = (((fun q => q % 32) k : Nat) : Int) from rfl]; exact h9)
termination_by 1024 - k
decreasing_by all_goals omega
theorem sp_edge_01 (X : AX) (I J : Nat → Nat → Int) (cc ss : Nat) {D : Nat → Nat → Bool} (hD : DM I D) : Ev X k_X9_edge (0, [some (vr 135), some (vi 0), some (vi 1), none, none, none], []) (MS I J cc ss) (fun o T => o = .inl (some (vi (lastF (colB D)))) ∧ T = MS I J cc ss) := by
  refine ev_n (fr' := (5, [some (vr 135), some (vi 0), some (vi 1), some (vi (-1)), some (vi 0), none], [])) (S' := MS I J cc ss) 4 rfl ?_
  exact lp_edge_01 X _ _ cc ss hD 0 (-1) _ (by omega) (Or.inl ⟨rfl, fun q h => absurd h (by omega)⟩)
theorem lp_edge_10 (X : AX) (I J : Nat → Nat → Int) (cc ss : Nat) {D : Nat → Nat → Bool} (hD : DM I D) (k : Nat) (z : Int) (v5 : Option AV) (hk : k ≤ 1024) (hz : EIf (fun q => I 140 q) (fun q => q / 32) k z) : Ev X k_X9_edge (5, [some (vr 135), some (vi 1), some (vi 0), some (vi z), some (vi (k : Int)), v5], []) (MS I J cc ss) (fun o T => o = .inl (some (vi (firstF (rowB D)))) ∧ T = MS I J cc ss) := by
  have hzr : -1 ≤ z ∧ z ≤ 2000 := by
    rcases hz with ⟨h1, -⟩ | ⟨m, h1, h2, h3, -⟩
    · omega
    · simp only at h3; omega
  refine ev_n (fr' := (10, [some (vr 135), some (vi 1), some (vi 0), some (vi z), some (vi (k : Int)), v5], [vi 1024, vi (k : Int)])) (S' := MS I J cc ss) 2 rfl ?_
  refine ev_ic (c := .ge) (off := 65) rfl (by decide) (fun (g1 : 1024 ≤ (k : Int)) => ?_) (fun (g1 : ¬ (1024 ≤ (k : Int))) => ?_)
  · show Ev X k_X9_edge (75, [some (vr 135), some (vi 1), some (vi 0), some (vi z), some (vi (k : Int)), v5], []) (MS I J cc ss) _
    refine ev_n (fr' := (76, [some (vr 135), some (vi 1), some (vi 0), some (vi z), some (vi (k : Int)), v5], [vi z])) (S' := MS I J cc ss) 1 rfl ?_
    refine ev_r rfl rfl rfl ?_
    have e : k = 1024 := by omega
    rw [e] at hz
    exact ⟨congrArg (fun z => Sum.inl (some (vi z))) (EIf.fin hz hD.row1 hD.row2), rfl⟩
  · show Ev X k_X9_edge (13, [some (vr 135), some (vi 1), some (vi 0), some (vi z), some (vi (k : Int)), v5], []) (MS I J cc ss) _
    refine ev_n (fr' := (22, [some (vr 135), some (vi 1), some (vi 0), some (vi z), some (vi (k : Int)), v5], [vi (opI (· / ·) (k : Int) 32)])) (S' := MS I J cc ss) 5 rfl ?_
    refine ev_eqi (div_lit (by omega) (by omega)) ?_
    show Ev X k_X9_edge (22, [some (vr 135), some (vi 1), some (vi 0), some (vi z), some (vi (k : Int)), v5], [vi ((k : Int) / 32)]) (MS I J cc ss) _
    refine ev_n (fr' := (38, [some (vr 135), some (vi 1), some (vi 0), some (vi z), some (vi (k : Int)), some (vi ((k : Int) / 32))], [vi (k : Int), vr 140])) (S' := MS I J cc ss) 5 rfl ?_
    refine ev_baN (j := k) (z := (I 140 k)) rfl rfl (by omega) (by omega) (rfl) ?_
    show Ev X k_X9_edge (39, [some (vr 135), some (vi 1), some (vi 0), some (vi z), some (vi (k : Int)), some (vi ((k : Int) / 32))], [vi (I 140 k)]) (MS I J cc ss) _
    refine ev_if (c := .eq) (off := 30) rfl (by decide) (fun (g2 : (I 140 k) = 0) => ?_) (fun (g2 : ¬ ((I 140 k) = 0)) => ?_)
    · show Ev X k_X9_edge (69, [some (vr 135), some (vi 1), some (vi 0), some (vi z), some (vi (k : Int)), some (vi ((k : Int) / 32))], []) (MS I J cc ss) _
      refine ev_inc (z := (k : Int) + 1) rfl rfl (by omega) (by omega) (by omega) rfl ?_
      show Ev X k_X9_edge (72, [some (vr 135), some (vi 1), some (vi 0), some (vi z), some (vi ((k : Int) + 1)), some (vi ((k : Int) / 32))], []) (MS I J cc ss) _
      refine ev_n (fr' := (5, [some (vr 135), some (vi 1), some (vi 0), some (vi z), some (vi ((k : Int) + 1)), some (vi ((k : Int) / 32))], [])) (S' := MS I J cc ss) 1 rfl ?_
      exact lp_edge_10 X _ _ cc ss hD (k + 1) (z) _ (by omega) (by first | exact hz.skip g2 | exact hz.keep (by omega) (by show _ ≤ _; omega))
    · show Ev X k_X9_edge (42, [some (vr 135), some (vi 1), some (vi 0), some (vi z), some (vi (k : Int)), some (vi ((k : Int) / 32))], []) (MS I J cc ss) _
      refine ev_n (fr' := (44, [some (vr 135), some (vi 1), some (vi 0), some (vi z), some (vi (k : Int)), some (vi ((k : Int) / 32))], [vi (-1), vi z])) (S' := MS I J cc ss) 2 rfl ?_
      refine ev_ic (c := .eq) (off := 22) rfl (by decide) (fun (g3 : z = -1) => ?_) (fun (g3 : ¬ (z = -1)) => ?_)
      · show Ev X k_X9_edge (66, [some (vr 135), some (vi 1), some (vi 0), some (vi z), some (vi (k : Int)), some (vi ((k : Int) / 32))], []) (MS I J cc ss) _
        refine ev_n (fr' := (69, [some (vr 135), some (vi 1), some (vi 0), some (vi ((k : Int) / 32)), some (vi (k : Int)), some (vi ((k : Int) / 32))], [])) (S' := MS I J cc ss) 2 rfl ?_
        refine ev_inc (z := (k : Int) + 1) rfl rfl (by omega) (by omega) (by omega) rfl ?_
        show Ev X k_X9_edge (72, [some (vr 135), some (vi 1), some (vi 0), some (vi ((k : Int) / 32)), some (vi ((k : Int) + 1)), some (vi ((k : Int) / 32))], []) (MS I J cc ss) _
        refine ev_n (fr' := (5, [some (vr 135), some (vi 1), some (vi 0), some (vi ((k : Int) / 32)), some (vi ((k : Int) + 1)), some (vi ((k : Int) / 32))], [])) (S' := MS I J cc ss) 1 rfl ?_
        exact lp_edge_10 X _ _ cc ss hD (k + 1) (((k : Int) / 32)) _ (by omega) (by
          have h9 := hz.take (by omega) (by show z = -1 ∨ _ ≤ _; omega)
          rw [show ((k : Int) / 32) = (((fun q => q / 32) k : Nat) : Int) from rfl]; exact h9)
      · show Ev X k_X9_edge (47, [some (vr 135), some (vi 1), some (vi 0), some (vi z), some (vi (k : Int)), some (vi ((k : Int) / 32))], []) (MS I J cc ss) _
        refine ev_n (fr' := (63, [some (vr 135), some (vi 1), some (vi 0), some (vi z), some (vi (k : Int)), some (vi ((k : Int) / 32))], [vi z, vi ((k : Int) / 32)])) (S' := MS I J cc ss) 4 rfl ?_
        refine ev_ic (c := .ge) (off := 6) rfl (by decide) (fun (g4 : z ≤ ((k : Int) / 32)) => ?_) (fun (g4 : ¬ (z ≤ ((k : Int) / 32))) => ?_)
        · show Ev X k_X9_edge (69, [some (vr 135), some (vi 1), some (vi 0), some (vi z), some (vi (k : Int)), some (vi ((k : Int) / 32))], []) (MS I J cc ss) _
          refine ev_inc (z := (k : Int) + 1) rfl rfl (by omega) (by omega) (by omega) rfl ?_
          show Ev X k_X9_edge (72, [some (vr 135), some (vi 1), some (vi 0), some (vi z), some (vi ((k : Int) + 1)), some (vi ((k : Int) / 32))], []) (MS I J cc ss) _
          refine ev_n (fr' := (5, [some (vr 135), some (vi 1), some (vi 0), some (vi z), some (vi ((k : Int) + 1)), some (vi ((k : Int) / 32))], [])) (S' := MS I J cc ss) 1 rfl ?_
          exact lp_edge_10 X _ _ cc ss hD (k + 1) (z) _ (by omega) (by first | exact hz.skip g2 | exact hz.keep (by omega) (by show _ ≤ _; omega))
        · show Ev X k_X9_edge (66, [some (vr 135), some (vi 1), some (vi 0), some (vi z), some (vi (k : Int)), some (vi ((k : Int) / 32))], []) (MS I J cc ss) _
          refine ev_n (fr' := (69, [some (vr 135), some (vi 1), some (vi 0), some (vi ((k : Int) / 32)), some (vi (k : Int)), some (vi ((k : Int) / 32))], [])) (S' := MS I J cc ss) 2 rfl ?_
          refine ev_inc (z := (k : Int) + 1) rfl rfl (by omega) (by omega) (by omega) rfl ?_
          show Ev X k_X9_edge (72, [some (vr 135), some (vi 1), some (vi 0), some (vi ((k : Int) / 32)), some (vi ((k : Int) + 1)), some (vi ((k : Int) / 32))], []) (MS I J cc ss) _
          refine ev_n (fr' := (5, [some (vr 135), some (vi 1), some (vi 0), some (vi ((k : Int) / 32)), some (vi ((k : Int) + 1)), some (vi ((k : Int) / 32))], [])) (S' := MS I J cc ss) 1 rfl ?_
          exact lp_edge_10 X _ _ cc ss hD (k + 1) (((k : Int) / 32)) _ (by omega) (by
            have h9 := hz.take (by omega) (by show z = -1 ∨ _ ≤ _; omega)
            rw [show ((k : Int) / 32) = (((fun q => q / 32) k : Nat) : Int) from rfl]; exact h9)
termination_by 1024 - k
decreasing_by all_goals omega
theorem sp_edge_10 (X : AX) (I J : Nat → Nat → Int) (cc ss : Nat) {D : Nat → Nat → Bool} (hD : DM I D) : Ev X k_X9_edge (0, [some (vr 135), some (vi 1), some (vi 0), none, none, none], []) (MS I J cc ss) (fun o T => o = .inl (some (vi (firstF (rowB D)))) ∧ T = MS I J cc ss) := by
  refine ev_n (fr' := (5, [some (vr 135), some (vi 1), some (vi 0), some (vi (-1)), some (vi 0), none], [])) (S' := MS I J cc ss) 4 rfl ?_
  exact lp_edge_10 X _ _ cc ss hD 0 (-1) _ (by omega) (Or.inl ⟨rfl, fun q h => absurd h (by omega)⟩)
theorem lp_edge_11 (X : AX) (I J : Nat → Nat → Int) (cc ss : Nat) {D : Nat → Nat → Bool} (hD : DM I D) (k : Nat) (z : Int) (v5 : Option AV) (hk : k ≤ 1024) (hz : EIl (fun q => I 140 q) (fun q => q / 32) k z) : Ev X k_X9_edge (5, [some (vr 135), some (vi 1), some (vi 1), some (vi z), some (vi (k : Int)), v5], []) (MS I J cc ss) (fun o T => o = .inl (some (vi (lastF (rowB D)))) ∧ T = MS I J cc ss) := by
  have hzr : -1 ≤ z ∧ z ≤ 2000 := by
    rcases hz with ⟨h1, -⟩ | ⟨m, h1, h2, h3, -⟩
    · omega
    · simp only at h3; omega
  refine ev_n (fr' := (10, [some (vr 135), some (vi 1), some (vi 1), some (vi z), some (vi (k : Int)), v5], [vi 1024, vi (k : Int)])) (S' := MS I J cc ss) 2 rfl ?_
  refine ev_ic (c := .ge) (off := 65) rfl (by decide) (fun (g1 : 1024 ≤ (k : Int)) => ?_) (fun (g1 : ¬ (1024 ≤ (k : Int))) => ?_)
  · show Ev X k_X9_edge (75, [some (vr 135), some (vi 1), some (vi 1), some (vi z), some (vi (k : Int)), v5], []) (MS I J cc ss) _
    refine ev_n (fr' := (76, [some (vr 135), some (vi 1), some (vi 1), some (vi z), some (vi (k : Int)), v5], [vi z])) (S' := MS I J cc ss) 1 rfl ?_
    refine ev_r rfl rfl rfl ?_
    have e : k = 1024 := by omega
    rw [e] at hz
    exact ⟨congrArg (fun z => Sum.inl (some (vi z))) (EIl.fin hz hD.row1 hD.row2), rfl⟩
  · show Ev X k_X9_edge (13, [some (vr 135), some (vi 1), some (vi 1), some (vi z), some (vi (k : Int)), v5], []) (MS I J cc ss) _
    refine ev_n (fr' := (22, [some (vr 135), some (vi 1), some (vi 1), some (vi z), some (vi (k : Int)), v5], [vi (opI (· / ·) (k : Int) 32)])) (S' := MS I J cc ss) 5 rfl ?_
    refine ev_eqi (div_lit (by omega) (by omega)) ?_
    show Ev X k_X9_edge (22, [some (vr 135), some (vi 1), some (vi 1), some (vi z), some (vi (k : Int)), v5], [vi ((k : Int) / 32)]) (MS I J cc ss) _
    refine ev_n (fr' := (38, [some (vr 135), some (vi 1), some (vi 1), some (vi z), some (vi (k : Int)), some (vi ((k : Int) / 32))], [vi (k : Int), vr 140])) (S' := MS I J cc ss) 5 rfl ?_
    refine ev_baN (j := k) (z := (I 140 k)) rfl rfl (by omega) (by omega) (rfl) ?_
    show Ev X k_X9_edge (39, [some (vr 135), some (vi 1), some (vi 1), some (vi z), some (vi (k : Int)), some (vi ((k : Int) / 32))], [vi (I 140 k)]) (MS I J cc ss) _
    refine ev_if (c := .eq) (off := 30) rfl (by decide) (fun (g2 : (I 140 k) = 0) => ?_) (fun (g2 : ¬ ((I 140 k) = 0)) => ?_)
    · show Ev X k_X9_edge (69, [some (vr 135), some (vi 1), some (vi 1), some (vi z), some (vi (k : Int)), some (vi ((k : Int) / 32))], []) (MS I J cc ss) _
      refine ev_inc (z := (k : Int) + 1) rfl rfl (by omega) (by omega) (by omega) rfl ?_
      show Ev X k_X9_edge (72, [some (vr 135), some (vi 1), some (vi 1), some (vi z), some (vi ((k : Int) + 1)), some (vi ((k : Int) / 32))], []) (MS I J cc ss) _
      refine ev_n (fr' := (5, [some (vr 135), some (vi 1), some (vi 1), some (vi z), some (vi ((k : Int) + 1)), some (vi ((k : Int) / 32))], [])) (S' := MS I J cc ss) 1 rfl ?_
      exact lp_edge_11 X _ _ cc ss hD (k + 1) (z) _ (by omega) (by first | exact hz.skip g2 | exact hz.keep (by omega) (by show _ ≤ _; omega))
    · show Ev X k_X9_edge (42, [some (vr 135), some (vi 1), some (vi 1), some (vi z), some (vi (k : Int)), some (vi ((k : Int) / 32))], []) (MS I J cc ss) _
      refine ev_n (fr' := (44, [some (vr 135), some (vi 1), some (vi 1), some (vi z), some (vi (k : Int)), some (vi ((k : Int) / 32))], [vi (-1), vi z])) (S' := MS I J cc ss) 2 rfl ?_
      refine ev_ic (c := .eq) (off := 22) rfl (by decide) (fun (g3 : z = -1) => ?_) (fun (g3 : ¬ (z = -1)) => ?_)
      · show Ev X k_X9_edge (66, [some (vr 135), some (vi 1), some (vi 1), some (vi z), some (vi (k : Int)), some (vi ((k : Int) / 32))], []) (MS I J cc ss) _
        refine ev_n (fr' := (69, [some (vr 135), some (vi 1), some (vi 1), some (vi ((k : Int) / 32)), some (vi (k : Int)), some (vi ((k : Int) / 32))], [])) (S' := MS I J cc ss) 2 rfl ?_
        refine ev_inc (z := (k : Int) + 1) rfl rfl (by omega) (by omega) (by omega) rfl ?_
        show Ev X k_X9_edge (72, [some (vr 135), some (vi 1), some (vi 1), some (vi ((k : Int) / 32)), some (vi ((k : Int) + 1)), some (vi ((k : Int) / 32))], []) (MS I J cc ss) _
        refine ev_n (fr' := (5, [some (vr 135), some (vi 1), some (vi 1), some (vi ((k : Int) / 32)), some (vi ((k : Int) + 1)), some (vi ((k : Int) / 32))], [])) (S' := MS I J cc ss) 1 rfl ?_
        exact lp_edge_11 X _ _ cc ss hD (k + 1) (((k : Int) / 32)) _ (by omega) (by
          have h9 := hz.take (by omega) (by show z = -1 ∨ _ ≤ _; omega)
          rw [show ((k : Int) / 32) = (((fun q => q / 32) k : Nat) : Int) from rfl]; exact h9)
      · show Ev X k_X9_edge (47, [some (vr 135), some (vi 1), some (vi 1), some (vi z), some (vi (k : Int)), some (vi ((k : Int) / 32))], []) (MS I J cc ss) _
        refine ev_n (fr' := (54, [some (vr 135), some (vi 1), some (vi 1), some (vi z), some (vi (k : Int)), some (vi ((k : Int) / 32))], [vi z, vi ((k : Int) / 32)])) (S' := MS I J cc ss) 4 rfl ?_
        refine ev_ic (c := .le) (off := 15) rfl (by decide) (fun (g4 : ((k : Int) / 32) ≤ z) => ?_) (fun (g4 : ¬ (((k : Int) / 32) ≤ z)) => ?_)
        · show Ev X k_X9_edge (69, [some (vr 135), some (vi 1), some (vi 1), some (vi z), some (vi (k : Int)), some (vi ((k : Int) / 32))], []) (MS I J cc ss) _
          refine ev_inc (z := (k : Int) + 1) rfl rfl (by omega) (by omega) (by omega) rfl ?_
          show Ev X k_X9_edge (72, [some (vr 135), some (vi 1), some (vi 1), some (vi z), some (vi ((k : Int) + 1)), some (vi ((k : Int) / 32))], []) (MS I J cc ss) _
          refine ev_n (fr' := (5, [some (vr 135), some (vi 1), some (vi 1), some (vi z), some (vi ((k : Int) + 1)), some (vi ((k : Int) / 32))], [])) (S' := MS I J cc ss) 1 rfl ?_
          exact lp_edge_11 X _ _ cc ss hD (k + 1) (z) _ (by omega) (by first | exact hz.skip g2 | exact hz.keep (by omega) (by show _ ≤ _; omega))
        · show Ev X k_X9_edge (57, [some (vr 135), some (vi 1), some (vi 1), some (vi z), some (vi (k : Int)), some (vi ((k : Int) / 32))], []) (MS I J cc ss) _
          refine ev_n (fr' := (69, [some (vr 135), some (vi 1), some (vi 1), some (vi ((k : Int) / 32)), some (vi (k : Int)), some (vi ((k : Int) / 32))], [])) (S' := MS I J cc ss) 3 rfl ?_
          refine ev_inc (z := (k : Int) + 1) rfl rfl (by omega) (by omega) (by omega) rfl ?_
          show Ev X k_X9_edge (72, [some (vr 135), some (vi 1), some (vi 1), some (vi ((k : Int) / 32)), some (vi ((k : Int) + 1)), some (vi ((k : Int) / 32))], []) (MS I J cc ss) _
          refine ev_n (fr' := (5, [some (vr 135), some (vi 1), some (vi 1), some (vi ((k : Int) / 32)), some (vi ((k : Int) + 1)), some (vi ((k : Int) / 32))], [])) (S' := MS I J cc ss) 1 rfl ?_
          exact lp_edge_11 X _ _ cc ss hD (k + 1) (((k : Int) / 32)) _ (by omega) (by
            have h9 := hz.take (by omega) (by show z = -1 ∨ _ ≤ _; omega)
            rw [show ((k : Int) / 32) = (((fun q => q / 32) k : Nat) : Int) from rfl]; exact h9)
termination_by 1024 - k
decreasing_by all_goals omega
theorem sp_edge_11 (X : AX) (I J : Nat → Nat → Int) (cc ss : Nat) {D : Nat → Nat → Bool} (hD : DM I D) : Ev X k_X9_edge (0, [some (vr 135), some (vi 1), some (vi 1), none, none, none], []) (MS I J cc ss) (fun o T => o = .inl (some (vi (lastF (rowB D)))) ∧ T = MS I J cc ss) := by
  refine ev_n (fr' := (5, [some (vr 135), some (vi 1), some (vi 1), some (vi (-1)), some (vi 0), none], [])) (S' := MS I J cc ss) 4 rfl ?_
  exact lp_edge_11 X _ _ cc ss hD 0 (-1) _ (by omega) (Or.inl ⟨rfl, fun q h => absurd h (by omega)⟩)
