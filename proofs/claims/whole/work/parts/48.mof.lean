/-! GROUPS, the reference, first part (printed by gen/g48.py) -/
/-- met pixels -/
def MR (I : F2) (M : B2) : Prop := ∀ y x, y < 32 → x < 32 → I 142 (32 * y + x) = if M y x then 1 else 0
theorem MR.congr {I : F2} {M M' : B2} (h : MR I M) (q : ∀ y x, M y x = M' y x) : MR I M' := fun y x h1 h2 => (h y x h1 h2).trans (by rw [q])
theorem MR.cell {I I' : F2} {M : B2} (e : I' 142 = I 142) (h : MR I M) : MR I' M := by unfold MR; rw [e]; exact h
theorem DM.cell {I I' : F2} {D : B2} (e : I' 140 = I 140) (h : DM I D) : DM I' D := by unfold DM; rw [e]; exact h
theorem MR.pt {I : F2} {M : B2} {y x : Nat} (h : MR I M) (hy : y < 32) (hx : x < 32) : MR (up2 I 142 (32 * y + x) 1) (fun y' x' => M y' x' || decide (y' = y ∧ x' = x)) := by
  intro y' x' hy' hx'
  show _ = if (M y' x' || decide (y' = y ∧ x' = x)) = true then (1 : Int) else 0
  by_cases e : y' = y ∧ x' = x
  · rw [e.1, e.2, up2_same, decide_eq_true ⟨rfl, rfl⟩, Bool.or_true]; rfl
  · rw [up2_ne2 _ _ _ _ (show 32 * y' + x' ≠ 32 * y + x by omega), h y' x' hy' hx', decide_eq_false e, Bool.or_false]
/-- a pixel that is free and not met -/
abbrev isOB (D M : B2) (n : Nat) (ink : Bool) (u v : Int) : Prop := 0 ≤ u ∧ u ≤ (n : Int) - 1 ∧ 0 ≤ v ∧ v ≤ (n : Int) - 1 ∧ M v.toNat u.toNat = false ∧ D v.toNat u.toNat = ink
def onlyG (I I' : F2) : Prop := (∀ a, a ≠ 142 → a ≠ 143 → a ≠ 135 → I' a = I a) ∧ ∀ f, f ≠ 20 → I' 135 f = I 135 f
theorem onlyG.refl (I : F2) : onlyG I I := ⟨fun _ _ _ _ => rfl, fun _ _ => rfl⟩
theorem onlyG.trans {I I' I2 : F2} (h : onlyG I I') (h2 : onlyG I' I2) : onlyG I I2 := ⟨fun a h3 h4 h5 => (h2.1 a h3 h4 h5).trans (h.1 a h3 h4 h5), fun f h3 => (h2.2 f h3).trans (h.2 f h3)⟩
theorem onlyG.upA {I I' : F2} (h : onlyG I I') {a k : Nat} {z : Int} (ha : a = 142 ∨ a = 143) : onlyG I (up2 I' a k z) := ⟨fun b h3 h4 h5 => (up2_row _ _ _ _ (by omega)).trans (h.1 b h3 h4 h5), fun f h3 => by rw [up2_row _ _ _ _ (by omega)]; exact h.2 f h3⟩
theorem onlyG.upF {I I' : F2} (h : onlyG I I') {z : Int} : onlyG I (up2 I' 135 20 z) := ⟨fun b h3 h4 h5 => (up2_row _ _ _ _ h5).trans (h.1 b h3 h4 h5), fun f h3 => by rw [up2_ne2 _ _ _ _ h3]; exact h.2 f h3⟩
/-- the free set that the reference sees when M0 is met -/
def frO (D M0 : B2) (n : Nat) (ink : Bool) : B2 := fun y x => decide (y < n) && decide (x < n) && !M0 y x && (D y x == ink)
theorem frO_iff {D M0 : B2} {n : Nat} {ink : Bool} {y x : Nat} : frO D M0 n ink y x = true ↔ y < n ∧ x < n ∧ M0 y x = false ∧ D y x = ink := by
  unfold frO; simp [and_assoc]
/-- the waiting pixels: m of them, those met anew -/
def WL (I : F2) (M : B2) (n m : Nat) : Prop := (∀ i, i < m → ∃ y x, y < n ∧ x < n ∧ I 143 i = 32 * (y : Int) + (x : Int) ∧ M y x = true) ∧ (∀ y x, M y x = true → ∃ i, i < m ∧ I 143 i = 32 * (y : Int) + (x : Int)) ∧ (m : Int) = cntB M
theorem WL.cell {I I' : F2} {M : B2} {n m : Nat} (e : ∀ i, i < m → I' 143 i = I 143 i) (h : WL I M n m) : WL I' M n m :=
  ⟨fun i hi => by rw [e i hi]; exact h.1 i hi, fun y x q => by obtain ⟨i, h1, h2⟩ := h.2.1 y x q; exact ⟨i, h1, by rw [e i h1]; exact h2⟩, h.2.2⟩
theorem WL.add {I : F2} {M : B2} {n m y x : Nat} (h : WL I M n m) (hn : n ≤ 32) (hy : y < n) (hx : x < n) (h0 : M y x = false) : WL (up2 I 143 m (32 * (y : Int) + (x : Int))) (fun y' x' => M y' x' || decide (y' = y ∧ x' = x)) n (m + 1) := by
  refine ⟨fun i hi => ?_, fun y' x' q => ?_, ?_⟩
  · by_cases e : i = m
    · rw [e, up2_same]; exact ⟨y, x, hy, hx, rfl, by show (M y x || decide (y = y ∧ x = x)) = true; rw [decide_eq_true ⟨rfl, rfl⟩, Bool.or_true]⟩
    · rw [up2_ne2 _ _ _ _ e]
      obtain ⟨a, b, h1, h2, h3, h4⟩ := h.1 i (by omega)
      exact ⟨a, b, h1, h2, h3, by show (M a b || decide (a = y ∧ b = x)) = true; rw [h4]; rfl⟩
  · have q : (M y' x' || decide (y' = y ∧ x' = x)) = true := q
    rw [Bool.or_eq_true, decide_eq_true_eq] at q
    rcases q with q | ⟨q1, q2⟩
    · obtain ⟨i, h1, h2⟩ := h.2.1 y' x' q
      exact ⟨i, by omega, by rw [up2_ne2 _ _ _ _ (by omega)]; exact h2⟩
    · exact ⟨m, by omega, by rw [up2_same, q1, q2]⟩
  · have := cntB_add (G := M) (y := y) (x := x) (by omega) (by omega) h0
    have := h.2.2
    omega
theorem WL.lt {I : F2} {M : B2} {n m y x : Nat} (h : WL I M n m) (hn : n ≤ 32) (hy : y < n) (hx : x < n) (h0 : M y x = false) : m < 1024 := by
  have h1 := cntB_add (G := M) (y := y) (x := x) (by omega) (by omega) h0
  have h2 := cntB_rng (fun y' x' => M y' x' || decide (y' = y ∧ x' = x))
  have h3 := h.2.2
  omega
theorem WL.le {I : F2} {M : B2} {n m : Nat} (h : WL I M n m) : m ≤ 1024 := by
  have h2 := cntB_rng M
  have h3 := h.2.2
  omega
/-- the group grows: what holds of the pixels met so far -/
def MG (O M : B2) (dg : Bool) (sy sx : Nat) : Prop := M sy sx = true ∧ ∀ y x, M y x = true → Rch O dg sy sx y x
theorem MG.add {O M : B2} {dg : Bool} {sy sx y x y' x' : Nat} (h : MG O M dg sy sx) (hM : M y x = true) (hn : nbr dg y x y' x') (ho : O y' x' = true) : MG O (fun a b => M a b || decide (a = y' ∧ b = x')) dg sy sx := by
  refine ⟨by show (M sy sx || _) = true; rw [h.1]; rfl, fun a b q => ?_⟩
  have q : (M a b || decide (a = y' ∧ b = x')) = true := q
  rw [Bool.or_eq_true, decide_eq_true_eq] at q
  rcases q with q | ⟨rfl, rfl⟩
  · exact h.2 a b q
  · exact (h.2 y x hM).step hn ho
/-- neighbours of (y, x) looked at so far, w ways, are met -/
def NB (O M : B2) (dg : Bool) (y x w : Nat) : Prop := ∀ y' x', nbr dg y x y' x' → 3 * (y' + 1 - y) + (x' + 1 - x) < w → O y' x' = true → M y' x' = true
theorem NB.mono {O M M' : B2} {dg : Bool} {y x w : Nat} (h : NB O M dg y x w) (hs : ∀ a b, M a b = true → M' a b = true) : NB O M' dg y x w := fun a b h1 h2 h3 => hs _ _ (h a b h1 h2 h3)
theorem NB.next {O M : B2} {dg : Bool} {y x w : Nat} (h : NB O M dg y x w) (hq : ∀ y' x', nbr dg y x y' x' → 3 * (y' + 1 - y) + (x' + 1 - x) = w → O y' x' = true → M y' x' = true) : NB O M dg y x (w + 1) := fun a b h1 h2 h3 => by
  rcases Nat.lt_succ_iff_lt_or_eq.mp h2 with q | q
  · exact h a b h1 q h3
  · exact hq a b h1 q h3
theorem or_mono {M : B2} {y x : Nat} : ∀ a b, M a b = true → (fun a b => M a b || decide (a = y ∧ b = x)) a b = true := fun a b q => by show (M a b || _) = true; rw [q]; rfl
theorem isof_i {u v : Int} {n : Nat} (g1 : 0 ≤ u ∧ u ≤ (n : Int) - 1) (g2 : 0 ≤ v ∧ v ≤ (n : Int) - 1) : (32 * v + u).toNat = 32 * v.toNat + u.toNat := by omega
theorem isof_m {I : F2} {M : B2} {u v : Int} {n : Nat} (hM : MR I M) (g1 : 0 ≤ u ∧ u ≤ (n : Int) - 1) (g2 : 0 ≤ v ∧ v ≤ (n : Int) - 1) (hn : n ≤ 32) (h : I 142 (32 * v + u).toNat = 0) : M v.toNat u.toNat = false := by
  rw [isof_i g1 g2, hM _ _ (by omega) (by omega)] at h
  cases e : M v.toNat u.toNat with
  | false => rfl
  | true => rw [e] at h; cases h
theorem isof_mn {I : F2} {M : B2} {u v : Int} {n : Nat} (hM : MR I M) (g1 : 0 ≤ u ∧ u ≤ (n : Int) - 1) (g2 : 0 ≤ v ∧ v ≤ (n : Int) - 1) (hn : n ≤ 32) (h : I 142 (32 * v + u).toNat ≠ 0) : ¬ M v.toNat u.toNat = false := by
  rw [isof_i g1 g2, hM _ _ (by omega) (by omega)] at h
  intro e; rw [e] at h; exact h rfl
theorem isof_t {I : F2} {D : B2} {u v : Int} {n : Nat} (hD : DM I D) (g1 : 0 ≤ u ∧ u ≤ (n : Int) - 1) (g2 : 0 ≤ v ∧ v ≤ (n : Int) - 1) (hn : n ≤ 32) (h : I 140 (32 * v + u).toNat = 1) : D v.toNat u.toNat = true := by
  rw [isof_i g1 g2, hD _ _ (by omega) (by omega)] at h
  cases e : D v.toNat u.toNat with
  | true => rfl
  | false => rw [e] at h; cases h
theorem isof_tn {I : F2} {D : B2} {u v : Int} {n : Nat} (hD : DM I D) (g1 : 0 ≤ u ∧ u ≤ (n : Int) - 1) (g2 : 0 ≤ v ∧ v ≤ (n : Int) - 1) (hn : n ≤ 32) (h : I 140 (32 * v + u).toNat ≠ 1) : ¬ D v.toNat u.toNat = true := by
  rw [isof_i g1 g2, hD _ _ (by omega) (by omega)] at h
  intro e; rw [e] at h; exact h rfl
theorem isof_f {I : F2} {D : B2} {u v : Int} {n : Nat} (hD : DM I D) (g1 : 0 ≤ u ∧ u ≤ (n : Int) - 1) (g2 : 0 ≤ v ∧ v ≤ (n : Int) - 1) (hn : n ≤ 32) (h : I 140 (32 * v + u).toNat = 0) : D v.toNat u.toNat = false := by
  rw [isof_i g1 g2, hD _ _ (by omega) (by omega)] at h
  cases e : D v.toNat u.toNat with
  | false => rfl
  | true => rw [e] at h; cases h
theorem isof_fn {I : F2} {D : B2} {u v : Int} {n : Nat} (hD : DM I D) (g1 : 0 ≤ u ∧ u ≤ (n : Int) - 1) (g2 : 0 ≤ v ∧ v ≤ (n : Int) - 1) (hn : n ≤ 32) (h : I 140 (32 * v + u).toNat ≠ 0) : ¬ D v.toNat u.toNat = false := by
  rw [isof_i g1 g2, hD _ _ (by omega) (by omega)] at h
  intro e; rw [e] at h; exact h rfl
theorem sp_isOf1 (X : AX) (I J : Nat → Nat → Int) (cc ss : Nat) {D M : B2} {n : Nat} (u v : Int) (hn32 : n ≤ 32) (hW : I 135 17 = (n : Int)) (hD : DM I D) (hM : MR I M) (hu : -100 ≤ u ∧ u ≤ 100) (hv : -100 ≤ v ∧ v ≤ 100) : Ev X k_X9_isOf (0, [some (vr 135), some (vi u), some (vi v), some (vi 1)], []) (MS I J cc ss) (fun o T => o = .inl (some (vi (if isOB D M n true u v then 1 else 0))) ∧ T = MS I J cc ss) := by
  refine ev_n (fr' := (7, [some (vr 135), some (vi u), some (vi v), some (vi 1)], [vi (I 135 17), vl 0, vl u])) (S' := MS I J cc ss) 5 rfl ?_
  refine ev_eqi (hW) ?_
  show Ev X k_X9_isOf (7, [some (vr 135), some (vi u), some (vi v), some (vi 1)], [vi (n : Int), vl 0, vl u]) (MS I J cc ss) _
  refine ev_n (fr' := (8, [some (vr 135), some (vi u), some (vi v), some (vi 1)], [vi 1, vi (n : Int), vl 0, vl u])) (S' := MS I J cc ss) 1 rfl ?_
  refine ev_sub (z := (n : Int) - 1) rfl (by omega) (by omega) (by omega) ?_
  show Ev X k_X9_isOf (9, [some (vr 135), some (vi u), some (vi v), some (vi 1)], [vi ((n : Int) - 1), vl 0, vl u]) (MS I J cc ss) _
  refine ev_n (fr' := (10, [some (vr 135), some (vi u), some (vi v), some (vi 1)], [vl ((n : Int) - 1), vl 0, vl u])) (S' := MS I J cc ss) 1 rfl ?_
  refine ev_cv rfl rfl rfl ⟨Nat.le_of_ble_eq_true rfl, Nat.le_of_ble_eq_true rfl⟩ (sp_isIn X _ u 0 ((n : Int) - 1) ) ?_
  show Ev X k_X9_isOf (13, [some (vr 135), some (vi u), some (vi v), some (vi 1)], [vi (if 0 ≤ u ∧ u ≤ (n : Int) - 1 then 1 else 0)]) (MS I J cc ss) _
  refine ev_beq _ rfl (by decide) (fun (g1 : ¬ (0 ≤ u ∧ u ≤ (n : Int) - 1)) => ?_) (fun (g1 : 0 ≤ u ∧ u ≤ (n : Int) - 1) => ?_)
  · show Ev X k_X9_isOf (65, [some (vr 135), some (vi u), some (vi v), some (vi 1)], []) (MS I J cc ss) _
    refine ev_n (fr' := (66, [some (vr 135), some (vi u), some (vi v), some (vi 1)], [vi 0])) (S' := MS I J cc ss) 1 rfl ?_
    refine ev_r rfl rfl rfl ?_
    exact ⟨congrArg (fun z => Sum.inl (some (vi z))) (if_neg (fun q => g1 ⟨q.1, q.2.1⟩)).symm, rfl⟩
  · show Ev X k_X9_isOf (16, [some (vr 135), some (vi u), some (vi v), some (vi 1)], []) (MS I J cc ss) _
    refine ev_n (fr' := (23, [some (vr 135), some (vi u), some (vi v), some (vi 1)], [vi (I 135 17), vl 0, vl v])) (S' := MS I J cc ss) 5 rfl ?_
    refine ev_eqi (hW) ?_
    show Ev X k_X9_isOf (23, [some (vr 135), some (vi u), some (vi v), some (vi 1)], [vi (n : Int), vl 0, vl v]) (MS I J cc ss) _
    refine ev_n (fr' := (24, [some (vr 135), some (vi u), some (vi v), some (vi 1)], [vi 1, vi (n : Int), vl 0, vl v])) (S' := MS I J cc ss) 1 rfl ?_
    refine ev_sub (z := (n : Int) - 1) rfl (by omega) (by omega) (by omega) ?_
    show Ev X k_X9_isOf (25, [some (vr 135), some (vi u), some (vi v), some (vi 1)], [vi ((n : Int) - 1), vl 0, vl v]) (MS I J cc ss) _
    refine ev_n (fr' := (26, [some (vr 135), some (vi u), some (vi v), some (vi 1)], [vl ((n : Int) - 1), vl 0, vl v])) (S' := MS I J cc ss) 1 rfl ?_
    refine ev_cv rfl rfl rfl ⟨Nat.le_of_ble_eq_true rfl, Nat.le_of_ble_eq_true rfl⟩ (sp_isIn X _ v 0 ((n : Int) - 1) ) ?_
    show Ev X k_X9_isOf (29, [some (vr 135), some (vi u), some (vi v), some (vi 1)], [vi (if 0 ≤ v ∧ v ≤ (n : Int) - 1 then 1 else 0)]) (MS I J cc ss) _
    refine ev_beq _ rfl (by decide) (fun (g2 : ¬ (0 ≤ v ∧ v ≤ (n : Int) - 1)) => ?_) (fun (g2 : 0 ≤ v ∧ v ≤ (n : Int) - 1) => ?_)
    · show Ev X k_X9_isOf (65, [some (vr 135), some (vi u), some (vi v), some (vi 1)], []) (MS I J cc ss) _
      refine ev_n (fr' := (66, [some (vr 135), some (vi u), some (vi v), some (vi 1)], [vi 0])) (S' := MS I J cc ss) 1 rfl ?_
      refine ev_r rfl rfl rfl ?_
      exact ⟨congrArg (fun z => Sum.inl (some (vi z))) (if_neg (fun q => g2 ⟨q.2.2.1, q.2.2.2.1⟩)).symm, rfl⟩
    · show Ev X k_X9_isOf (32, [some (vr 135), some (vi u), some (vi v), some (vi 1)], []) (MS I J cc ss) _
      refine ev_n (fr' := (39, [some (vr 135), some (vi u), some (vi v), some (vi 1)], [vi v, vi 32, vr 142])) (S' := MS I J cc ss) 4 rfl ?_
      refine ev_mul (z := 32 * v) rfl (by omega) (by omega) (by omega) ?_
      show Ev X k_X9_isOf (40, [some (vr 135), some (vi u), some (vi v), some (vi 1)], [vi (32 * v), vr 142]) (MS I J cc ss) _
      refine ev_n (fr' := (41, [some (vr 135), some (vi u), some (vi v), some (vi 1)], [vi u, vi (32 * v), vr 142])) (S' := MS I J cc ss) 1 rfl ?_
      refine ev_add (z := 32 * v + u) rfl (by omega) (by omega) (by omega) ?_
      show Ev X k_X9_isOf (42, [some (vr 135), some (vi u), some (vi v), some (vi 1)], [vi (32 * v + u), vr 142]) (MS I J cc ss) _
      refine ev_baN (j := (32 * v + u).toNat) (z := (I 142 ((32 * v + u).toNat))) rfl rfl (by omega) (by omega) (rfl) ?_
      show Ev X k_X9_isOf (43, [some (vr 135), some (vi u), some (vi v), some (vi 1)], [vi (I 142 ((32 * v + u).toNat))]) (MS I J cc ss) _
      refine ev_if (c := .ne) (off := 22) rfl (by decide) (fun (g3 : (I 142 ((32 * v + u).toNat)) ≠ 0) => ?_) (fun (g3 : ¬ ((I 142 ((32 * v + u).toNat)) ≠ 0)) => ?_)
      · show Ev X k_X9_isOf (65, [some (vr 135), some (vi u), some (vi v), some (vi 1)], []) (MS I J cc ss) _
        refine ev_n (fr' := (66, [some (vr 135), some (vi u), some (vi v), some (vi 1)], [vi 0])) (S' := MS I J cc ss) 1 rfl ?_
        refine ev_r rfl rfl rfl ?_
        exact ⟨congrArg (fun z => Sum.inl (some (vi z))) (if_neg (fun q => isof_mn hM g1 g2 hn32 g3 q.2.2.2.2.1)).symm, rfl⟩
      · show Ev X k_X9_isOf (46, [some (vr 135), some (vi u), some (vi v), some (vi 1)], []) (MS I J cc ss) _
        refine ev_n (fr' := (53, [some (vr 135), some (vi u), some (vi v), some (vi 1)], [vi v, vi 32, vr 140])) (S' := MS I J cc ss) 4 rfl ?_
        refine ev_mul (z := 32 * v) rfl (by omega) (by omega) (by omega) ?_
        show Ev X k_X9_isOf (54, [some (vr 135), some (vi u), some (vi v), some (vi 1)], [vi (32 * v), vr 140]) (MS I J cc ss) _
        refine ev_n (fr' := (55, [some (vr 135), some (vi u), some (vi v), some (vi 1)], [vi u, vi (32 * v), vr 140])) (S' := MS I J cc ss) 1 rfl ?_
        refine ev_add (z := 32 * v + u) rfl (by omega) (by omega) (by omega) ?_
        show Ev X k_X9_isOf (56, [some (vr 135), some (vi u), some (vi v), some (vi 1)], [vi (32 * v + u), vr 140]) (MS I J cc ss) _
        refine ev_baN (j := (32 * v + u).toNat) (z := (I 140 ((32 * v + u).toNat))) rfl rfl (by omega) (by omega) (rfl) ?_
        show Ev X k_X9_isOf (57, [some (vr 135), some (vi u), some (vi v), some (vi 1)], [vi (I 140 ((32 * v + u).toNat))]) (MS I J cc ss) _
        refine ev_n (fr' := (58, [some (vr 135), some (vi u), some (vi v), some (vi 1)], [vi 1, vi (I 140 ((32 * v + u).toNat))])) (S' := MS I J cc ss) 1 rfl ?_
        refine ev_ic (c := .ne) (off := 7) rfl (by decide) (fun (g4 : (I 140 ((32 * v + u).toNat)) ≠ 1) => ?_) (fun (g4 : ¬ ((I 140 ((32 * v + u).toNat)) ≠ 1)) => ?_)
        · show Ev X k_X9_isOf (65, [some (vr 135), some (vi u), some (vi v), some (vi 1)], []) (MS I J cc ss) _
          refine ev_n (fr' := (66, [some (vr 135), some (vi u), some (vi v), some (vi 1)], [vi 0])) (S' := MS I J cc ss) 1 rfl ?_
          refine ev_r rfl rfl rfl ?_
          exact ⟨congrArg (fun z => Sum.inl (some (vi z))) (if_neg (fun q => isof_tn hD g1 g2 hn32 g4 q.2.2.2.2.2)).symm, rfl⟩
        · show Ev X k_X9_isOf (61, [some (vr 135), some (vi u), some (vi v), some (vi 1)], []) (MS I J cc ss) _
          refine ev_n (fr' := (66, [some (vr 135), some (vi u), some (vi v), some (vi 1)], [vi 1])) (S' := MS I J cc ss) 2 rfl ?_
          refine ev_r rfl rfl rfl ?_
          exact ⟨congrArg (fun z => Sum.inl (some (vi z))) (if_pos ⟨g1.1, g1.2, g2.1, g2.2, isof_m hM g1 g2 hn32 (Decidable.of_not_not g3), isof_t hD g1 g2 hn32 (Decidable.of_not_not g4)⟩).symm, rfl⟩
theorem sp_isOf0 (X : AX) (I J : Nat → Nat → Int) (cc ss : Nat) {D M : B2} {n : Nat} (u v : Int) (hn32 : n ≤ 32) (hW : I 135 17 = (n : Int)) (hD : DM I D) (hM : MR I M) (hu : -100 ≤ u ∧ u ≤ 100) (hv : -100 ≤ v ∧ v ≤ 100) : Ev X k_X9_isOf (0, [some (vr 135), some (vi u), some (vi v), some (vi 0)], []) (MS I J cc ss) (fun o T => o = .inl (some (vi (if isOB D M n false u v then 1 else 0))) ∧ T = MS I J cc ss) := by
  refine ev_n (fr' := (7, [some (vr 135), some (vi u), some (vi v), some (vi 0)], [vi (I 135 17), vl 0, vl u])) (S' := MS I J cc ss) 5 rfl ?_
  refine ev_eqi (hW) ?_
  show Ev X k_X9_isOf (7, [some (vr 135), some (vi u), some (vi v), some (vi 0)], [vi (n : Int), vl 0, vl u]) (MS I J cc ss) _
  refine ev_n (fr' := (8, [some (vr 135), some (vi u), some (vi v), some (vi 0)], [vi 1, vi (n : Int), vl 0, vl u])) (S' := MS I J cc ss) 1 rfl ?_
  refine ev_sub (z := (n : Int) - 1) rfl (by omega) (by omega) (by omega) ?_
  show Ev X k_X9_isOf (9, [some (vr 135), some (vi u), some (vi v), some (vi 0)], [vi ((n : Int) - 1), vl 0, vl u]) (MS I J cc ss) _
  refine ev_n (fr' := (10, [some (vr 135), some (vi u), some (vi v), some (vi 0)], [vl ((n : Int) - 1), vl 0, vl u])) (S' := MS I J cc ss) 1 rfl ?_
  refine ev_cv rfl rfl rfl ⟨Nat.le_of_ble_eq_true rfl, Nat.le_of_ble_eq_true rfl⟩ (sp_isIn X _ u 0 ((n : Int) - 1) ) ?_
  show Ev X k_X9_isOf (13, [some (vr 135), some (vi u), some (vi v), some (vi 0)], [vi (if 0 ≤ u ∧ u ≤ (n : Int) - 1 then 1 else 0)]) (MS I J cc ss) _
  refine ev_beq _ rfl (by decide) (fun (g1 : ¬ (0 ≤ u ∧ u ≤ (n : Int) - 1)) => ?_) (fun (g1 : 0 ≤ u ∧ u ≤ (n : Int) - 1) => ?_)
  · show Ev X k_X9_isOf (65, [some (vr 135), some (vi u), some (vi v), some (vi 0)], []) (MS I J cc ss) _
    refine ev_n (fr' := (66, [some (vr 135), some (vi u), some (vi v), some (vi 0)], [vi 0])) (S' := MS I J cc ss) 1 rfl ?_
    refine ev_r rfl rfl rfl ?_
    exact ⟨congrArg (fun z => Sum.inl (some (vi z))) (if_neg (fun q => g1 ⟨q.1, q.2.1⟩)).symm, rfl⟩
  · show Ev X k_X9_isOf (16, [some (vr 135), some (vi u), some (vi v), some (vi 0)], []) (MS I J cc ss) _
    refine ev_n (fr' := (23, [some (vr 135), some (vi u), some (vi v), some (vi 0)], [vi (I 135 17), vl 0, vl v])) (S' := MS I J cc ss) 5 rfl ?_
    refine ev_eqi (hW) ?_
    show Ev X k_X9_isOf (23, [some (vr 135), some (vi u), some (vi v), some (vi 0)], [vi (n : Int), vl 0, vl v]) (MS I J cc ss) _
    refine ev_n (fr' := (24, [some (vr 135), some (vi u), some (vi v), some (vi 0)], [vi 1, vi (n : Int), vl 0, vl v])) (S' := MS I J cc ss) 1 rfl ?_
    refine ev_sub (z := (n : Int) - 1) rfl (by omega) (by omega) (by omega) ?_
    show Ev X k_X9_isOf (25, [some (vr 135), some (vi u), some (vi v), some (vi 0)], [vi ((n : Int) - 1), vl 0, vl v]) (MS I J cc ss) _
    refine ev_n (fr' := (26, [some (vr 135), some (vi u), some (vi v), some (vi 0)], [vl ((n : Int) - 1), vl 0, vl v])) (S' := MS I J cc ss) 1 rfl ?_
    refine ev_cv rfl rfl rfl ⟨Nat.le_of_ble_eq_true rfl, Nat.le_of_ble_eq_true rfl⟩ (sp_isIn X _ v 0 ((n : Int) - 1) ) ?_
    show Ev X k_X9_isOf (29, [some (vr 135), some (vi u), some (vi v), some (vi 0)], [vi (if 0 ≤ v ∧ v ≤ (n : Int) - 1 then 1 else 0)]) (MS I J cc ss) _
    refine ev_beq _ rfl (by decide) (fun (g2 : ¬ (0 ≤ v ∧ v ≤ (n : Int) - 1)) => ?_) (fun (g2 : 0 ≤ v ∧ v ≤ (n : Int) - 1) => ?_)
    · show Ev X k_X9_isOf (65, [some (vr 135), some (vi u), some (vi v), some (vi 0)], []) (MS I J cc ss) _
      refine ev_n (fr' := (66, [some (vr 135), some (vi u), some (vi v), some (vi 0)], [vi 0])) (S' := MS I J cc ss) 1 rfl ?_
      refine ev_r rfl rfl rfl ?_
      exact ⟨congrArg (fun z => Sum.inl (some (vi z))) (if_neg (fun q => g2 ⟨q.2.2.1, q.2.2.2.1⟩)).symm, rfl⟩
    · show Ev X k_X9_isOf (32, [some (vr 135), some (vi u), some (vi v), some (vi 0)], []) (MS I J cc ss) _
      refine ev_n (fr' := (39, [some (vr 135), some (vi u), some (vi v), some (vi 0)], [vi v, vi 32, vr 142])) (S' := MS I J cc ss) 4 rfl ?_
      refine ev_mul (z := 32 * v) rfl (by omega) (by omega) (by omega) ?_
      show Ev X k_X9_isOf (40, [some (vr 135), some (vi u), some (vi v), some (vi 0)], [vi (32 * v), vr 142]) (MS I J cc ss) _
      refine ev_n (fr' := (41, [some (vr 135), some (vi u), some (vi v), some (vi 0)], [vi u, vi (32 * v), vr 142])) (S' := MS I J cc ss) 1 rfl ?_
      refine ev_add (z := 32 * v + u) rfl (by omega) (by omega) (by omega) ?_
      show Ev X k_X9_isOf (42, [some (vr 135), some (vi u), some (vi v), some (vi 0)], [vi (32 * v + u), vr 142]) (MS I J cc ss) _
      refine ev_baN (j := (32 * v + u).toNat) (z := (I 142 ((32 * v + u).toNat))) rfl rfl (by omega) (by omega) (rfl) ?_
      show Ev X k_X9_isOf (43, [some (vr 135), some (vi u), some (vi v), some (vi 0)], [vi (I 142 ((32 * v + u).toNat))]) (MS I J cc ss) _
      refine ev_if (c := .ne) (off := 22) rfl (by decide) (fun (g3 : (I 142 ((32 * v + u).toNat)) ≠ 0) => ?_) (fun (g3 : ¬ ((I 142 ((32 * v + u).toNat)) ≠ 0)) => ?_)
      · show Ev X k_X9_isOf (65, [some (vr 135), some (vi u), some (vi v), some (vi 0)], []) (MS I J cc ss) _
        refine ev_n (fr' := (66, [some (vr 135), some (vi u), some (vi v), some (vi 0)], [vi 0])) (S' := MS I J cc ss) 1 rfl ?_
        refine ev_r rfl rfl rfl ?_
        exact ⟨congrArg (fun z => Sum.inl (some (vi z))) (if_neg (fun q => isof_mn hM g1 g2 hn32 g3 q.2.2.2.2.1)).symm, rfl⟩
      · show Ev X k_X9_isOf (46, [some (vr 135), some (vi u), some (vi v), some (vi 0)], []) (MS I J cc ss) _
        refine ev_n (fr' := (53, [some (vr 135), some (vi u), some (vi v), some (vi 0)], [vi v, vi 32, vr 140])) (S' := MS I J cc ss) 4 rfl ?_
        refine ev_mul (z := 32 * v) rfl (by omega) (by omega) (by omega) ?_
        show Ev X k_X9_isOf (54, [some (vr 135), some (vi u), some (vi v), some (vi 0)], [vi (32 * v), vr 140]) (MS I J cc ss) _
        refine ev_n (fr' := (55, [some (vr 135), some (vi u), some (vi v), some (vi 0)], [vi u, vi (32 * v), vr 140])) (S' := MS I J cc ss) 1 rfl ?_
        refine ev_add (z := 32 * v + u) rfl (by omega) (by omega) (by omega) ?_
        show Ev X k_X9_isOf (56, [some (vr 135), some (vi u), some (vi v), some (vi 0)], [vi (32 * v + u), vr 140]) (MS I J cc ss) _
        refine ev_baN (j := (32 * v + u).toNat) (z := (I 140 ((32 * v + u).toNat))) rfl rfl (by omega) (by omega) (rfl) ?_
        show Ev X k_X9_isOf (57, [some (vr 135), some (vi u), some (vi v), some (vi 0)], [vi (I 140 ((32 * v + u).toNat))]) (MS I J cc ss) _
        refine ev_n (fr' := (58, [some (vr 135), some (vi u), some (vi v), some (vi 0)], [vi 0, vi (I 140 ((32 * v + u).toNat))])) (S' := MS I J cc ss) 1 rfl ?_
        refine ev_ic (c := .ne) (off := 7) rfl (by decide) (fun (g4 : (I 140 ((32 * v + u).toNat)) ≠ 0) => ?_) (fun (g4 : ¬ ((I 140 ((32 * v + u).toNat)) ≠ 0)) => ?_)
        · show Ev X k_X9_isOf (65, [some (vr 135), some (vi u), some (vi v), some (vi 0)], []) (MS I J cc ss) _
          refine ev_n (fr' := (66, [some (vr 135), some (vi u), some (vi v), some (vi 0)], [vi 0])) (S' := MS I J cc ss) 1 rfl ?_
          refine ev_r rfl rfl rfl ?_
          exact ⟨congrArg (fun z => Sum.inl (some (vi z))) (if_neg (fun q => isof_fn hD g1 g2 hn32 g4 q.2.2.2.2.2)).symm, rfl⟩
        · show Ev X k_X9_isOf (61, [some (vr 135), some (vi u), some (vi v), some (vi 0)], []) (MS I J cc ss) _
          refine ev_n (fr' := (66, [some (vr 135), some (vi u), some (vi v), some (vi 0)], [vi 1])) (S' := MS I J cc ss) 2 rfl ?_
          refine ev_r rfl rfl rfl ?_
          exact ⟨congrArg (fun z => Sum.inl (some (vi z))) (if_pos ⟨g1.1, g1.2, g2.1, g2.2, isof_m hM g1 g2 hn32 (Decidable.of_not_not g3), isof_f hD g1 g2 hn32 (Decidable.of_not_not g4)⟩).symm, rfl⟩
