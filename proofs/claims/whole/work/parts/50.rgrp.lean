/-! GROUPS ARE COUNTED, the reference (printed by gen/g50.py) -/
theorem frO_next {D M0 G : B2} {n : Nat} {ink : Bool} (y x : Nat) : frO D (fun a b => M0 a b || G a b) n ink y x = (frO D M0 n ink y x && !G y x) := by
  unfold frO
  show (decide (y < n) && decide (x < n) && !(M0 y x || G y x) && (D y x == ink)) = _
  cases decide (y < n) <;> cases decide (x < n) <;> cases M0 y x <;> cases G y x <;> cases (D y x == ink) <;> rfl
theorem isOB_frO {D M : B2} {n y x : Nat} {ink : Bool} : isOB D M n ink (x : Int) (y : Int) ↔ frO D M n ink y x = true := by
  rw [frO_iff]
  unfold isOB
  rw [Int.toNat_natCast, Int.toNat_natCast]
  constructor
  · rintro ⟨h1, h2, h3, h4, h5, h6⟩; exact ⟨by omega, by omega, h5, h6⟩
  · rintro ⟨h1, h2, h3, h4⟩; exact ⟨by omega, by omega, by omega, by omega, h3, h4⟩
theorem li_rg1 (X : AX) (I J : Nat → Nat → Int) (cc ss : Nat) {Q : (Option AV ⊕ Nat) → AS → Prop} {D : B2} {n : Nat} (I0 : F2) (hn32 : n ≤ 32) (k : Nat) (hk : k < n) (j : Nat) (z : Int) (hj : j ≤ n) (hW : I 135 17 = (n : Int)) (hD : DM I D) (hF : onlyG I0 I) {M : B2} (hMR : MR I M) (hz : z = grQ n true false (frO D (fun _ _ => false) n true) (k * n + j)) (hOq : ∀ y x, frO D M n true y x = opQ n true (frO D (fun _ _ => false) n true) (k * n + j) y x) (K : ∀ (I' : F2) (M : B2) (j : Nat) (z : Int), j = n → I' 135 17 = (n : Int) → DM I' D → onlyG I0 I' → MR I' M → z = grQ n true false (frO D (fun _ _ => false) n true) (k * n + j) → (∀ y x, frO D M n true y x = opQ n true (frO D (fun _ _ => false) n true) (k * n + j) y x) → Ev X k_X9_groups (97, [some (vr 135), some (vi 1), some (vi z), some (vi (k : Int)), some (vi (j : Int))], []) (MS I' J cc ss) Q) : Ev X k_X9_groups (37, [some (vr 135), some (vi 1), some (vi z), some (vi (k : Int)), some (vi (j : Int))], []) (MS I J cc ss) (Q) := by
  have hzr := grQ_rng (n := n) (dg := true) (ins := false) (O := frO D (fun _ _ => false) n true) (k * n + j)
  have hkn : k * n ≤ 32 * 32 := Nat.mul_le_mul (by omega) hn32
  refine ev_n (fr' := (43, [some (vr 135), some (vi 1), some (vi z), some (vi (k : Int)), some (vi (j : Int))], [vi (I 135 17), vi (j : Int)])) (S' := MS I J cc ss) 3 rfl ?_
  refine ev_eqi (hW) ?_
  show Ev X k_X9_groups (43, [some (vr 135), some (vi 1), some (vi z), some (vi (k : Int)), some (vi (j : Int))], [vi (n : Int), vi (j : Int)]) (MS I J cc ss) _
  refine ev_ic (c := .ge) (off := 54) rfl (by decide) (fun (g1 : (n : Int) ≤ (j : Int)) => ?_) (fun (g1 : ¬ ((n : Int) ≤ (j : Int))) => ?_)
  · show Ev X k_X9_groups (97, [some (vr 135), some (vi 1), some (vi z), some (vi (k : Int)), some (vi (j : Int))], []) (MS I J cc ss) _
    exact K I M j z (by omega) hW hD hF hMR hz hOq
  · show Ev X k_X9_groups (46, [some (vr 135), some (vi 1), some (vi z), some (vi (k : Int)), some (vi (j : Int))], []) (MS I J cc ss) _
    refine ev_n (fr' := (51, [some (vr 135), some (vi 1), some (vi z), some (vi (k : Int)), some (vi (j : Int))], [vi 1, vi (k : Int), vi (j : Int), vr 135])) (S' := MS I J cc ss) 4 rfl ?_
    refine ev_cv rfl rfl rfl ⟨Nat.le_of_ble_eq_true rfl, Nat.le_of_ble_eq_true rfl⟩ (sp_isOf1 X _ _ _ _ (j : Int) (k : Int) hn32 hW hD hMR (by omega) (by omega)) ?_
    show Ev X k_X9_groups (54, [some (vr 135), some (vi 1), some (vi z), some (vi (k : Int)), some (vi (j : Int))], [vi (if isOB D M n true (j : Int) (k : Int) then 1 else 0)]) (MS I J cc ss) _
    refine ev_bne _ rfl (by decide) (fun (g2 : isOB D M n true (j : Int) (k : Int)) => ?_) (fun (g2 : ¬ (isOB D M n true (j : Int) (k : Int))) => ?_)
    · show Ev X k_X9_groups (60, [some (vr 135), some (vi 1), some (vi z), some (vi (k : Int)), some (vi (j : Int))], []) (MS I J cc ss) _
      have hs : frO D M n true k j = true := isOB_frO.mp g2
      refine ev_n (fr' := (64, [some (vr 135), some (vi 1), some (vi z), some (vi (k : Int)), some (vi (j : Int))], [vi (k : Int), vi 32, vr 135])) (S' := MS I J cc ss) 3 rfl ?_
      refine ev_mul (z := 32 * (k : Int)) rfl (by omega) (by omega) (by omega) ?_
      show Ev X k_X9_groups (65, [some (vr 135), some (vi 1), some (vi z), some (vi (k : Int)), some (vi (j : Int))], [vi (32 * (k : Int)), vr 135]) (MS I J cc ss) _
      refine ev_n (fr' := (67, [some (vr 135), some (vi 1), some (vi z), some (vi (k : Int)), some (vi (j : Int))], [vi (j : Int), vi (32 * (k : Int)), vr 135])) (S' := MS I J cc ss) 1 rfl ?_
      refine ev_add (z := 32 * (k : Int) + (j : Int)) rfl (by omega) (by omega) (by omega) ?_
      show Ev X k_X9_groups (68, [some (vr 135), some (vi 1), some (vi z), some (vi (k : Int)), some (vi (j : Int))], [vi (32 * (k : Int) + (j : Int)), vr 135]) (MS I J cc ss) _
      refine ev_n (fr' := (69, [some (vr 135), some (vi 1), some (vi z), some (vi (k : Int)), some (vi (j : Int))], [vi 1, vi (32 * (k : Int) + (j : Int)), vr 135])) (S' := MS I J cc ss) 1 rfl ?_
      refine ev_cp rfl rfl rfl ⟨Nat.le_of_ble_eq_true rfl, Nat.le_of_ble_eq_true rfl⟩ (sp_meets1 X _ _ _ _ k j hn32 hs hW hD hMR) (fun I1 J q2 => ?_)
      obtain ⟨rfl, rI1, G, hgr, hMR2, hMZ⟩ := q2
      show Ev X k_X9_groups (72, [some (vr 135), some (vi 1), some (vi z), some (vi (k : Int)), some (vi (j : Int))], []) (MS I1 J cc ss) _
      have hF2 := hF.trans rI1
      have hW2 : I1 135 17 = (n : Int) := (rI1.2 17 (by decide)).trans hW
      have hD2 := DM.cell (rI1.1 140 (by decide) (by decide) (by decide)) hD
      have e0 : frO D M n true = opQ n true (frO D (fun _ _ => false) n true) (k * n + j) := funext (fun y => funext (hOq y))
      rw [e0] at hgr
      have hs2 := hs
      rw [e0] at hs2
      have hOq2 : ∀ y x, frO D (fun a b => M a b || G a b) n true y x = opQ n true (frO D (fun _ _ => false) n true) (k * n + j + 1) y x := fun y x => by
        rw [opQ_yes (by omega) hs2, goneB_eq hgr, ← hOq]; exact frO_next y x
      refine ev_n (fr' := (89, [some (vr 135), some (vi 1), some (vi z), some (vi (k : Int)), some (vi (j : Int))], [vi 1, vi z])) (S' := MS I1 J cc ss) 5 rfl ?_
      refine ev_add (z := z + 1) rfl (by omega) (by omega) (by omega) ?_
      show Ev X k_X9_groups (90, [some (vr 135), some (vi 1), some (vi z), some (vi (k : Int)), some (vi (j : Int))], [vi (z + 1)]) (MS I1 J cc ss) _
      refine ev_n (fr' := (91, [some (vr 135), some (vi 1), some (vi (z + 1)), some (vi (k : Int)), some (vi (j : Int))], [])) (S' := MS I1 J cc ss) 1 rfl ?_
      refine ev_inc (z := (j : Int) + 1) rfl rfl (by omega) (by omega) (by omega) rfl ?_
      show Ev X k_X9_groups (94, [some (vr 135), some (vi 1), some (vi (z + 1)), some (vi (k : Int)), some (vi ((j : Int) + 1))], []) (MS I1 J cc ss) _
      refine ev_n (fr' := (37, [some (vr 135), some (vi 1), some (vi (z + 1)), some (vi (k : Int)), some (vi ((j : Int) + 1))], [])) (S' := MS I1 J cc ss) 1 rfl ?_
      exact li_rg1 X _ _ cc ss I0 hn32 k hk (j + 1) _ (by omega) hW2 hD2 hF2 hMR2 (by rw [← Nat.add_assoc, grQ_yes (z := 1) (by omega) hs2 hgr (Or.inl ⟨rfl, Or.inl rfl⟩), hz]) (by rw [← Nat.add_assoc]; exact hOq2) K
    · show Ev X k_X9_groups (57, [some (vr 135), some (vi 1), some (vi z), some (vi (k : Int)), some (vi (j : Int))], []) (MS I J cc ss) _
      have hs : opQ n true (frO D (fun _ _ => false) n true) (k * n + j) k j = false := by rw [← hOq, ← Bool.not_eq_true]; exact fun q => g2 (isOB_frO.mpr q)
      refine ev_n (fr' := (91, [some (vr 135), some (vi 1), some (vi z), some (vi (k : Int)), some (vi (j : Int))], [])) (S' := MS I J cc ss) 1 rfl ?_
      refine ev_inc (z := (j : Int) + 1) rfl rfl (by omega) (by omega) (by omega) rfl ?_
      show Ev X k_X9_groups (94, [some (vr 135), some (vi 1), some (vi z), some (vi (k : Int)), some (vi ((j : Int) + 1))], []) (MS I J cc ss) _
      refine ev_n (fr' := (37, [some (vr 135), some (vi 1), some (vi z), some (vi (k : Int)), some (vi ((j : Int) + 1))], [])) (S' := MS I J cc ss) 1 rfl ?_
      exact li_rg1 X _ _ cc ss I0 hn32 k hk (j + 1) _ (by omega) hW hD hF hMR (by rw [hz, ← Nat.add_assoc]; exact (grQ_no (by omega) hs).symm) (by rw [← Nat.add_assoc, opQ_no (by omega) hs]; exact hOq) K
termination_by 33 - j
decreasing_by all_goals omega
theorem lp_rg1 (X : AX) (I J : Nat → Nat → Int) (cc ss : Nat) {D : B2} {n : Nat} (I0 : F2) (hn32 : n ≤ 32) (k : Nat) (z : Int) (v4 : Option AV) (hk : k ≤ n) (hW : I 135 17 = (n : Int)) (hD : DM I D) (hF : onlyG I0 I) {M : B2} (hMR : MR I M) (hz : z = grQ n true false (frO D (fun _ _ => false) n true) (k * n)) (hOq : ∀ y x, frO D M n true y x = opQ n true (frO D (fun _ _ => false) n true) (k * n) y x) : Ev X k_X9_groups (26, [some (vr 135), some (vi 1), some (vi z), some (vi (k : Int)), v4], []) (MS I J cc ss) (PZ cc ss (fun z I' J' => J' = J ∧ onlyG I0 I' ∧ z = grpF n true false (frO D (fun _ _ => false) n true))) := by
  refine ev_n (fr' := (31, [some (vr 135), some (vi 1), some (vi z), some (vi (k : Int)), v4], [vi (I 135 17), vi (k : Int)])) (S' := MS I J cc ss) 3 rfl ?_
  refine ev_eqi (hW) ?_
  show Ev X k_X9_groups (31, [some (vr 135), some (vi 1), some (vi z), some (vi (k : Int)), v4], [vi (n : Int), vi (k : Int)]) (MS I J cc ss) _
  refine ev_ic (c := .ge) (off := 72) rfl (by decide) (fun (g1 : (n : Int) ≤ (k : Int)) => ?_) (fun (g1 : ¬ ((n : Int) ≤ (k : Int))) => ?_)
  · show Ev X k_X9_groups (103, [some (vr 135), some (vi 1), some (vi z), some (vi (k : Int)), v4], []) (MS I J cc ss) _
    refine ev_n (fr' := (104, [some (vr 135), some (vi 1), some (vi z), some (vi (k : Int)), v4], [vi z])) (S' := MS I J cc ss) 1 rfl ?_
    refine ev_r rfl rfl rfl ?_
    exact ⟨_, _, _, rfl, rfl, rfl, hF, by rw [hz, show k = n by omega]; rfl⟩
  · show Ev X k_X9_groups (34, [some (vr 135), some (vi 1), some (vi z), some (vi (k : Int)), v4], []) (MS I J cc ss) _
    refine ev_n (fr' := (37, [some (vr 135), some (vi 1), some (vi z), some (vi (k : Int)), some (vi 0)], [])) (S' := MS I J cc ss) 2 rfl ?_
    refine li_rg1 X _ _ cc ss I0 hn32 k (by omega) 0 z (by omega) hW hD hF hMR hz hOq (fun I1 M j z hj hW hD hF hMR hz hOq => ?_)
    show Ev X k_X9_groups (97, [some (vr 135), some (vi 1), some (vi z), some (vi (k : Int)), some (vi (j : Int))], []) (MS I1 J cc ss) _
    refine ev_inc (z := (k : Int) + 1) rfl rfl (by omega) (by omega) (by omega) rfl ?_
    show Ev X k_X9_groups (100, [some (vr 135), some (vi 1), some (vi z), some (vi ((k : Int) + 1)), some (vi (j : Int))], []) (MS I1 J cc ss) _
    refine ev_n (fr' := (26, [some (vr 135), some (vi 1), some (vi z), some (vi ((k : Int) + 1)), some (vi (j : Int))], [])) (S' := MS I1 J cc ss) 1 rfl ?_
    have e : k * n + j = (k + 1) * n := by rw [hj, Nat.succ_mul]
    rw [e] at hz hOq
    exact lp_rg1 X _ _ cc ss I0 hn32 (k + 1) _ _ (by omega) hW hD hF hMR hz hOq
termination_by 33 - k
decreasing_by all_goals omega
theorem lp_rgc1 (X : AX) (I J : Nat → Nat → Int) (cc ss : Nat) {D : B2} {n : Nat} (I0 : F2) (hn32 : n ≤ 32) (k : Nat) (hk : k ≤ 1024) (hW : I 135 17 = (n : Int)) (hD : DM I D) (hF : onlyG I0 I) (hZ : ∀ q, q < k → I 142 q = 0) : Ev X k_X9_groups (2, [some (vr 135), some (vi 1), some (vi (k : Int)), none, none], []) (MS I J cc ss) (PZ cc ss (fun z I' J' => J' = J ∧ onlyG I0 I' ∧ z = grpF n true false (frO D (fun _ _ => false) n true))) := by
  refine ev_n (fr' := (6, [some (vr 135), some (vi 1), some (vi (k : Int)), none, none], [vi 1024, vi (k : Int)])) (S' := MS I J cc ss) 2 rfl ?_
  refine ev_ic (c := .ge) (off := 16) rfl (by decide) (fun (g1 : 1024 ≤ (k : Int)) => ?_) (fun (g1 : ¬ (1024 ≤ (k : Int))) => ?_)
  · show Ev X k_X9_groups (22, [some (vr 135), some (vi 1), some (vi (k : Int)), none, none], []) (MS I J cc ss) _
    refine ev_n (fr' := (26, [some (vr 135), some (vi 1), some (vi 0), some (vi 0), none], [])) (S' := MS I J cc ss) 4 rfl ?_
    exact lp_rg1 X _ _ cc ss I0 hn32 0 0 _ (by omega) hW hD hF (M := fun _ _ => false) (fun y x hy hx => by rw [hZ _ (by omega)]; rfl) (by rw [Nat.zero_mul]; rfl) (fun y x => by rw [Nat.zero_mul]; rfl)
  · show Ev X k_X9_groups (9, [some (vr 135), some (vi 1), some (vi (k : Int)), none, none], []) (MS I J cc ss) _
    refine ev_n (fr' := (15, [some (vr 135), some (vi 1), some (vi (k : Int)), none, none], [vi 0, vi (k : Int), vr 142])) (S' := MS I J cc ss) 4 rfl ?_
    refine ev_basN (j := k) rfl rfl (by omega) (by omega) (Or.inl rfl) ?_
    show Ev X k_X9_groups (16, [some (vr 135), some (vi 1), some (vi (k : Int)), none, none], []) (MS (up2 I 142 k 0) J cc ss) _
    refine ev_inc (z := (k : Int) + 1) rfl rfl (by omega) (by omega) (by omega) rfl ?_
    show Ev X k_X9_groups (19, [some (vr 135), some (vi 1), some (vi ((k : Int) + 1)), none, none], []) (MS (up2 I 142 k 0) J cc ss) _
    refine ev_n (fr' := (2, [some (vr 135), some (vi 1), some (vi ((k : Int) + 1)), none, none], [])) (S' := MS (up2 I 142 k 0) J cc ss) 1 rfl ?_
    exact lp_rgc1 X _ _ cc ss I0 hn32 (k + 1) (by omega) (by rw [up2_row _ _ _ _ (by decide)]; exact hW) (DM.cell (up2_row _ _ _ _ (by decide)) hD) (hF.upA (Or.inl rfl)) (fun q hq => by
      by_cases e1 : q = k
      · rw [e1, up2_same]
      · rw [up2_ne2 _ _ _ _ e1]; exact hZ q (by omega))
termination_by 1024 - k
decreasing_by all_goals omega
theorem sp_groups1 (X : AX) (I J : Nat → Nat → Int) (cc ss : Nat) {D : B2} {n : Nat} (hn32 : n ≤ 32) (hW : I 135 17 = (n : Int)) (hD : DM I D) : Ev X k_X9_groups (0, [some (vr 135), some (vi 1), none, none, none], []) (MS I J cc ss) (PZ cc ss (fun z I' J' => J' = J ∧ onlyG I I' ∧ z = grpF n true false (frO D (fun _ _ => false) n true))) := by
  refine ev_n (fr' := (2, [some (vr 135), some (vi 1), some (vi 0), none, none], [])) (S' := MS I J cc ss) 2 rfl ?_
  exact lp_rgc1 X _ _ cc ss I hn32 0 (by omega) hW hD (onlyG.refl _) (fun q h => absurd h (by omega))
theorem li_rg0 (X : AX) (I J : Nat → Nat → Int) (cc ss : Nat) {Q : (Option AV ⊕ Nat) → AS → Prop} {D : B2} {n : Nat} (I0 : F2) (hn32 : n ≤ 32) (k : Nat) (hk : k < n) (j : Nat) (z : Int) (hj : j ≤ n) (hW : I 135 17 = (n : Int)) (hD : DM I D) (hF : onlyG I0 I) {M : B2} (hMR : MR I M) (hz : z = grQ n false true (frO D (fun _ _ => false) n false) (k * n + j)) (hOq : ∀ y x, frO D M n false y x = opQ n false (frO D (fun _ _ => false) n false) (k * n + j) y x) (K : ∀ (I' : F2) (M : B2) (j : Nat) (z : Int), j = n → I' 135 17 = (n : Int) → DM I' D → onlyG I0 I' → MR I' M → z = grQ n false true (frO D (fun _ _ => false) n false) (k * n + j) → (∀ y x, frO D M n false y x = opQ n false (frO D (fun _ _ => false) n false) (k * n + j) y x) → Ev X k_X9_groups (97, [some (vr 135), some (vi 0), some (vi z), some (vi (k : Int)), some (vi (j : Int))], []) (MS I' J cc ss) Q) : Ev X k_X9_groups (37, [some (vr 135), some (vi 0), some (vi z), some (vi (k : Int)), some (vi (j : Int))], []) (MS I J cc ss) (Q) := by
  have hzr := grQ_rng (n := n) (dg := false) (ins := true) (O := frO D (fun _ _ => false) n false) (k * n + j)
  have hkn : k * n ≤ 32 * 32 := Nat.mul_le_mul (by omega) hn32
  refine ev_n (fr' := (43, [some (vr 135), some (vi 0), some (vi z), some (vi (k : Int)), some (vi (j : Int))], [vi (I 135 17), vi (j : Int)])) (S' := MS I J cc ss) 3 rfl ?_
  refine ev_eqi (hW) ?_
  show Ev X k_X9_groups (43, [some (vr 135), some (vi 0), some (vi z), some (vi (k : Int)), some (vi (j : Int))], [vi (n : Int), vi (j : Int)]) (MS I J cc ss) _
  refine ev_ic (c := .ge) (off := 54) rfl (by decide) (fun (g1 : (n : Int) ≤ (j : Int)) => ?_) (fun (g1 : ¬ ((n : Int) ≤ (j : Int))) => ?_)
  · show Ev X k_X9_groups (97, [some (vr 135), some (vi 0), some (vi z), some (vi (k : Int)), some (vi (j : Int))], []) (MS I J cc ss) _
    exact K I M j z (by omega) hW hD hF hMR hz hOq
  · show Ev X k_X9_groups (46, [some (vr 135), some (vi 0), some (vi z), some (vi (k : Int)), some (vi (j : Int))], []) (MS I J cc ss) _
    refine ev_n (fr' := (51, [some (vr 135), some (vi 0), some (vi z), some (vi (k : Int)), some (vi (j : Int))], [vi 0, vi (k : Int), vi (j : Int), vr 135])) (S' := MS I J cc ss) 4 rfl ?_
    refine ev_cv rfl rfl rfl ⟨Nat.le_of_ble_eq_true rfl, Nat.le_of_ble_eq_true rfl⟩ (sp_isOf0 X _ _ _ _ (j : Int) (k : Int) hn32 hW hD hMR (by omega) (by omega)) ?_
    show Ev X k_X9_groups (54, [some (vr 135), some (vi 0), some (vi z), some (vi (k : Int)), some (vi (j : Int))], [vi (if isOB D M n false (j : Int) (k : Int) then 1 else 0)]) (MS I J cc ss) _
    refine ev_bne _ rfl (by decide) (fun (g2 : isOB D M n false (j : Int) (k : Int)) => ?_) (fun (g2 : ¬ (isOB D M n false (j : Int) (k : Int))) => ?_)
    · show Ev X k_X9_groups (60, [some (vr 135), some (vi 0), some (vi z), some (vi (k : Int)), some (vi (j : Int))], []) (MS I J cc ss) _
      have hs : frO D M n false k j = true := isOB_frO.mp g2
      refine ev_n (fr' := (64, [some (vr 135), some (vi 0), some (vi z), some (vi (k : Int)), some (vi (j : Int))], [vi (k : Int), vi 32, vr 135])) (S' := MS I J cc ss) 3 rfl ?_
      refine ev_mul (z := 32 * (k : Int)) rfl (by omega) (by omega) (by omega) ?_
      show Ev X k_X9_groups (65, [some (vr 135), some (vi 0), some (vi z), some (vi (k : Int)), some (vi (j : Int))], [vi (32 * (k : Int)), vr 135]) (MS I J cc ss) _
      refine ev_n (fr' := (67, [some (vr 135), some (vi 0), some (vi z), some (vi (k : Int)), some (vi (j : Int))], [vi (j : Int), vi (32 * (k : Int)), vr 135])) (S' := MS I J cc ss) 1 rfl ?_
      refine ev_add (z := 32 * (k : Int) + (j : Int)) rfl (by omega) (by omega) (by omega) ?_
      show Ev X k_X9_groups (68, [some (vr 135), some (vi 0), some (vi z), some (vi (k : Int)), some (vi (j : Int))], [vi (32 * (k : Int) + (j : Int)), vr 135]) (MS I J cc ss) _
      refine ev_n (fr' := (69, [some (vr 135), some (vi 0), some (vi z), some (vi (k : Int)), some (vi (j : Int))], [vi 0, vi (32 * (k : Int) + (j : Int)), vr 135])) (S' := MS I J cc ss) 1 rfl ?_
      refine ev_cp rfl rfl rfl ⟨Nat.le_of_ble_eq_true rfl, Nat.le_of_ble_eq_true rfl⟩ (sp_meets0 X _ _ _ _ k j hn32 hs hW hD hMR) (fun I1 J q2 => ?_)
      obtain ⟨rfl, rI1, G, hgr, hMR2, hMZ⟩ := q2
      show Ev X k_X9_groups (72, [some (vr 135), some (vi 0), some (vi z), some (vi (k : Int)), some (vi (j : Int))], []) (MS I1 J cc ss) _
      have hF2 := hF.trans rI1
      have hW2 : I1 135 17 = (n : Int) := (rI1.2 17 (by decide)).trans hW
      have hD2 := DM.cell (rI1.1 140 (by decide) (by decide) (by decide)) hD
      have e0 : frO D M n false = opQ n false (frO D (fun _ _ => false) n false) (k * n + j) := funext (fun y => funext (hOq y))
      rw [e0] at hgr
      have hs2 := hs
      rw [e0] at hs2
      have hOq2 : ∀ y x, frO D (fun a b => M a b || G a b) n false y x = opQ n false (frO D (fun _ _ => false) n false) (k * n + j + 1) y x := fun y x => by
        rw [opQ_yes (by omega) hs2, goneB_eq hgr, ← hOq]; exact frO_next y x
      refine ev_n (fr' := (81, [some (vr 135), some (vi 0), some (vi z), some (vi (k : Int)), some (vi (j : Int))], [vi (I1 135 20), vi z])) (S' := MS I1 J cc ss) 5 rfl ?_
      refine ev_if (c := .eq) (off := 7) rfl (by decide) (fun (g3 : (I1 135 20) = 0) => ?_) (fun (g3 : ¬ ((I1 135 20) = 0)) => ?_)
      · show Ev X k_X9_groups (88, [some (vr 135), some (vi 0), some (vi z), some (vi (k : Int)), some (vi (j : Int))], [vi z]) (MS I1 J cc ss) _
        refine ev_n (fr' := (89, [some (vr 135), some (vi 0), some (vi z), some (vi (k : Int)), some (vi (j : Int))], [vi 0, vi z])) (S' := MS I1 J cc ss) 1 rfl ?_
        refine ev_add (z := z) rfl (by omega) (by omega) (by omega) ?_
        show Ev X k_X9_groups (90, [some (vr 135), some (vi 0), some (vi z), some (vi (k : Int)), some (vi (j : Int))], [vi z]) (MS I1 J cc ss) _
        refine ev_n (fr' := (91, [some (vr 135), some (vi 0), some (vi z), some (vi (k : Int)), some (vi (j : Int))], [])) (S' := MS I1 J cc ss) 1 rfl ?_
        refine ev_inc (z := (j : Int) + 1) rfl rfl (by omega) (by omega) (by omega) rfl ?_
        show Ev X k_X9_groups (94, [some (vr 135), some (vi 0), some (vi z), some (vi (k : Int)), some (vi ((j : Int) + 1))], []) (MS I1 J cc ss) _
        refine ev_n (fr' := (37, [some (vr 135), some (vi 0), some (vi z), some (vi (k : Int)), some (vi ((j : Int) + 1))], [])) (S' := MS I1 J cc ss) 1 rfl ?_
        exact li_rg0 X _ _ cc ss I0 hn32 k hk (j + 1) _ (by omega) hW2 hD2 hF2 hMR2 (by rw [← Nat.add_assoc, grQ_yes (z := 0) (by omega) hs2 hgr (Or.inr ⟨rfl, rfl, by rcases hMZ with q | q; exfalso; omega; exact q.2⟩), hz, Int.add_zero]) (by rw [← Nat.add_assoc]; exact hOq2) K
      · show Ev X k_X9_groups (84, [some (vr 135), some (vi 0), some (vi z), some (vi (k : Int)), some (vi (j : Int))], [vi z]) (MS I1 J cc ss) _
        refine ev_n (fr' := (89, [some (vr 135), some (vi 0), some (vi z), some (vi (k : Int)), some (vi (j : Int))], [vi 1, vi z])) (S' := MS I1 J cc ss) 2 rfl ?_
        refine ev_add (z := z + 1) rfl (by omega) (by omega) (by omega) ?_
        show Ev X k_X9_groups (90, [some (vr 135), some (vi 0), some (vi z), some (vi (k : Int)), some (vi (j : Int))], [vi (z + 1)]) (MS I1 J cc ss) _
        refine ev_n (fr' := (91, [some (vr 135), some (vi 0), some (vi (z + 1)), some (vi (k : Int)), some (vi (j : Int))], [])) (S' := MS I1 J cc ss) 1 rfl ?_
        refine ev_inc (z := (j : Int) + 1) rfl rfl (by omega) (by omega) (by omega) rfl ?_
        show Ev X k_X9_groups (94, [some (vr 135), some (vi 0), some (vi (z + 1)), some (vi (k : Int)), some (vi ((j : Int) + 1))], []) (MS I1 J cc ss) _
        refine ev_n (fr' := (37, [some (vr 135), some (vi 0), some (vi (z + 1)), some (vi (k : Int)), some (vi ((j : Int) + 1))], [])) (S' := MS I1 J cc ss) 1 rfl ?_
        exact li_rg0 X _ _ cc ss I0 hn32 k hk (j + 1) _ (by omega) hW2 hD2 hF2 hMR2 (by rw [← Nat.add_assoc, grQ_yes (z := 1) (by omega) hs2 hgr (Or.inl ⟨rfl, Or.inr (by rcases hMZ with q | q; exact q.2; exfalso; omega)⟩), hz]) (by rw [← Nat.add_assoc]; exact hOq2) K
    · show Ev X k_X9_groups (57, [some (vr 135), some (vi 0), some (vi z), some (vi (k : Int)), some (vi (j : Int))], []) (MS I J cc ss) _
      have hs : opQ n false (frO D (fun _ _ => false) n false) (k * n + j) k j = false := by rw [← hOq, ← Bool.not_eq_true]; exact fun q => g2 (isOB_frO.mpr q)
      refine ev_n (fr' := (91, [some (vr 135), some (vi 0), some (vi z), some (vi (k : Int)), some (vi (j : Int))], [])) (S' := MS I J cc ss) 1 rfl ?_
      refine ev_inc (z := (j : Int) + 1) rfl rfl (by omega) (by omega) (by omega) rfl ?_
      show Ev X k_X9_groups (94, [some (vr 135), some (vi 0), some (vi z), some (vi (k : Int)), some (vi ((j : Int) + 1))], []) (MS I J cc ss) _
      refine ev_n (fr' := (37, [some (vr 135), some (vi 0), some (vi z), some (vi (k : Int)), some (vi ((j : Int) + 1))], [])) (S' := MS I J cc ss) 1 rfl ?_
      exact li_rg0 X _ _ cc ss I0 hn32 k hk (j + 1) _ (by omega) hW hD hF hMR (by rw [hz, ← Nat.add_assoc]; exact (grQ_no (by omega) hs).symm) (by rw [← Nat.add_assoc, opQ_no (by omega) hs]; exact hOq) K
termination_by 33 - j
decreasing_by all_goals omega
theorem lp_rg0 (X : AX) (I J : Nat → Nat → Int) (cc ss : Nat) {D : B2} {n : Nat} (I0 : F2) (hn32 : n ≤ 32) (k : Nat) (z : Int) (v4 : Option AV) (hk : k ≤ n) (hW : I 135 17 = (n : Int)) (hD : DM I D) (hF : onlyG I0 I) {M : B2} (hMR : MR I M) (hz : z = grQ n false true (frO D (fun _ _ => false) n false) (k * n)) (hOq : ∀ y x, frO D M n false y x = opQ n false (frO D (fun _ _ => false) n false) (k * n) y x) : Ev X k_X9_groups (26, [some (vr 135), some (vi 0), some (vi z), some (vi (k : Int)), v4], []) (MS I J cc ss) (PZ cc ss (fun z I' J' => J' = J ∧ onlyG I0 I' ∧ z = grpF n false true (frO D (fun _ _ => false) n false))) := by
  refine ev_n (fr' := (31, [some (vr 135), some (vi 0), some (vi z), some (vi (k : Int)), v4], [vi (I 135 17), vi (k : Int)])) (S' := MS I J cc ss) 3 rfl ?_
  refine ev_eqi (hW) ?_
  show Ev X k_X9_groups (31, [some (vr 135), some (vi 0), some (vi z), some (vi (k : Int)), v4], [vi (n : Int), vi (k : Int)]) (MS I J cc ss) _
  refine ev_ic (c := .ge) (off := 72) rfl (by decide) (fun (g1 : (n : Int) ≤ (k : Int)) => ?_) (fun (g1 : ¬ ((n : Int) ≤ (k : Int))) => ?_)
  · show Ev X k_X9_groups (103, [some (vr 135), some (vi 0), some (vi z), some (vi (k : Int)), v4], []) (MS I J cc ss) _
    refine ev_n (fr' := (104, [some (vr 135), some (vi 0), some (vi z), some (vi (k : Int)), v4], [vi z])) (S' := MS I J cc ss) 1 rfl ?_
    refine ev_r rfl rfl rfl ?_
    exact ⟨_, _, _, rfl, rfl, rfl, hF, by rw [hz, show k = n by omega]; rfl⟩
  · show Ev X k_X9_groups (34, [some (vr 135), some (vi 0), some (vi z), some (vi (k : Int)), v4], []) (MS I J cc ss) _
    refine ev_n (fr' := (37, [some (vr 135), some (vi 0), some (vi z), some (vi (k : Int)), some (vi 0)], [])) (S' := MS I J cc ss) 2 rfl ?_
    refine li_rg0 X _ _ cc ss I0 hn32 k (by omega) 0 z (by omega) hW hD hF hMR hz hOq (fun I1 M j z hj hW hD hF hMR hz hOq => ?_)
    show Ev X k_X9_groups (97, [some (vr 135), some (vi 0), some (vi z), some (vi (k : Int)), some (vi (j : Int))], []) (MS I1 J cc ss) _
    refine ev_inc (z := (k : Int) + 1) rfl rfl (by omega) (by omega) (by omega) rfl ?_
    show Ev X k_X9_groups (100, [some (vr 135), some (vi 0), some (vi z), some (vi ((k : Int) + 1)), some (vi (j : Int))], []) (MS I1 J cc ss) _
    refine ev_n (fr' := (26, [some (vr 135), some (vi 0), some (vi z), some (vi ((k : Int) + 1)), some (vi (j : Int))], [])) (S' := MS I1 J cc ss) 1 rfl ?_
    have e : k * n + j = (k + 1) * n := by rw [hj, Nat.succ_mul]
    rw [e] at hz hOq
    exact lp_rg0 X _ _ cc ss I0 hn32 (k + 1) _ _ (by omega) hW hD hF hMR hz hOq
termination_by 33 - k
decreasing_by all_goals omega
theorem lp_rgc0 (X : AX) (I J : Nat → Nat → Int) (cc ss : Nat) {D : B2} {n : Nat} (I0 : F2) (hn32 : n ≤ 32) (k : Nat) (hk : k ≤ 1024) (hW : I 135 17 = (n : Int)) (hD : DM I D) (hF : onlyG I0 I) (hZ : ∀ q, q < k → I 142 q = 0) : Ev X k_X9_groups (2, [some (vr 135), some (vi 0), some (vi (k : Int)), none, none], []) (MS I J cc ss) (PZ cc ss (fun z I' J' => J' = J ∧ onlyG I0 I' ∧ z = grpF n false true (frO D (fun _ _ => false) n false))) := by
  refine ev_n (fr' := (6, [some (vr 135), some (vi 0), some (vi (k : Int)), none, none], [vi 1024, vi (k : Int)])) (S' := MS I J cc ss) 2 rfl ?_
  refine ev_ic (c := .ge) (off := 16) rfl (by decide) (fun (g1 : 1024 ≤ (k : Int)) => ?_) (fun (g1 : ¬ (1024 ≤ (k : Int))) => ?_)
  · show Ev X k_X9_groups (22, [some (vr 135), some (vi 0), some (vi (k : Int)), none, none], []) (MS I J cc ss) _
    refine ev_n (fr' := (26, [some (vr 135), some (vi 0), some (vi 0), some (vi 0), none], [])) (S' := MS I J cc ss) 4 rfl ?_
    exact lp_rg0 X _ _ cc ss I0 hn32 0 0 _ (by omega) hW hD hF (M := fun _ _ => false) (fun y x hy hx => by rw [hZ _ (by omega)]; rfl) (by rw [Nat.zero_mul]; rfl) (fun y x => by rw [Nat.zero_mul]; rfl)
  · show Ev X k_X9_groups (9, [some (vr 135), some (vi 0), some (vi (k : Int)), none, none], []) (MS I J cc ss) _
    refine ev_n (fr' := (15, [some (vr 135), some (vi 0), some (vi (k : Int)), none, none], [vi 0, vi (k : Int), vr 142])) (S' := MS I J cc ss) 4 rfl ?_
    refine ev_basN (j := k) rfl rfl (by omega) (by omega) (Or.inl rfl) ?_
    show Ev X k_X9_groups (16, [some (vr 135), some (vi 0), some (vi (k : Int)), none, none], []) (MS (up2 I 142 k 0) J cc ss) _
    refine ev_inc (z := (k : Int) + 1) rfl rfl (by omega) (by omega) (by omega) rfl ?_
    show Ev X k_X9_groups (19, [some (vr 135), some (vi 0), some (vi ((k : Int) + 1)), none, none], []) (MS (up2 I 142 k 0) J cc ss) _
    refine ev_n (fr' := (2, [some (vr 135), some (vi 0), some (vi ((k : Int) + 1)), none, none], [])) (S' := MS (up2 I 142 k 0) J cc ss) 1 rfl ?_
    exact lp_rgc0 X _ _ cc ss I0 hn32 (k + 1) (by omega) (by rw [up2_row _ _ _ _ (by decide)]; exact hW) (DM.cell (up2_row _ _ _ _ (by decide)) hD) (hF.upA (Or.inl rfl)) (fun q hq => by
      by_cases e1 : q = k
      · rw [e1, up2_same]
      · rw [up2_ne2 _ _ _ _ e1]; exact hZ q (by omega))
termination_by 1024 - k
decreasing_by all_goals omega
theorem sp_groups0 (X : AX) (I J : Nat → Nat → Int) (cc ss : Nat) {D : B2} {n : Nat} (hn32 : n ≤ 32) (hW : I 135 17 = (n : Int)) (hD : DM I D) : Ev X k_X9_groups (0, [some (vr 135), some (vi 0), none, none, none], []) (MS I J cc ss) (PZ cc ss (fun z I' J' => J' = J ∧ onlyG I I' ∧ z = grpF n false true (frO D (fun _ _ => false) n false))) := by
  refine ev_n (fr' := (2, [some (vr 135), some (vi 0), some (vi 0), none, none], [])) (S' := MS I J cc ss) 2 rfl ?_
  exact lp_rgc0 X _ _ cc ss I hn32 0 (by omega) hW hD (onlyG.refl _) (fun q h => absurd h (by omega))
theorem frO_pieces {D : B2} {n : Nat} (h : ∀ y x, D y x = true → y < n ∧ x < n) : frO D (fun _ _ => false) n true = D := by
  funext y x
  rw [Bool.eq_iff_iff, frO_iff]
  exact ⟨fun q => q.2.2.2, fun q => ⟨(h y x q).1, (h y x q).2, rfl, q⟩⟩
theorem frO_holes {D : B2} {n : Nat} : frO D (fun _ _ => false) n false = holB D n := by
  funext y x
  unfold frO holB
  cases decide (y < n) <;> cases decide (x < n) <;> cases D y x <;> rfl
