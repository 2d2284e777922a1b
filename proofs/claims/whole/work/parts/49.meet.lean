/-! GROUPS, the reference, second part (printed by gen/g49.py) -/
theorem NB.skip {D M0 M : B2} {n y x w : Nat} {ink dg : Bool} {u v : Int} (h : NB (frO D M0 n ink) M dg y x w) (hu : u = (x : Int) + (w : Int) % 3 - 1) (hv : v = (y : Int) + (w : Int) / 3 - 1) (hg : ¬ isOB D (fun a b => M0 a b || M a b) n ink u v) : NB (frO D M0 n ink) M dg y x (w + 1) :=
  h.next (fun y' x' hn hw ho => by
    obtain ⟨n1, n2, n3, n4, n5⟩ := hn
    obtain ⟨o1, o2, o3, o4⟩ := frO_iff.mp ho
    cases e : M y' x' with
    | true => rfl
    | false =>
      exact absurd ⟨by omega, by omega, by omega, by omega, by rw [show v.toNat = y' by omega, show u.toNat = x' by omega]; show (M0 y' x' || M y' x') = false; rw [o3, e]; rfl, by rw [show v.toNat = y' by omega, show u.toNat = x' by omega]; exact o4⟩ hg)
theorem NB.skipd {O M : B2} {y x w : Nat} (h : NB O M false y x w) (h1 : (w : Int) % 3 - 1 ≠ 0) (h2 : (w : Int) / 3 - 1 ≠ 0) : NB O M false y x (w + 1) :=
  h.next (fun y' x' hn hw ho => by
    obtain ⟨n1, n2, n3, n4, n5⟩ := hn
    exfalso
    rcases n5 with q | q | q
    · cases q
    · omega
    · omega)
theorem NB.take {O M : B2} {dg : Bool} {y x w y2 x2 : Nat} (h : NB O M dg y x w) (hx : (x2 : Int) = (x : Int) + (w : Int) % 3 - 1) (hy : (y2 : Int) = (y : Int) + (w : Int) / 3 - 1) : NB O (fun a b => M a b || decide (a = y2 ∧ b = x2)) dg y x (w + 1) :=
  (h.mono or_mono).next (fun y' x' hn hw ho => by
    obtain ⟨n1, n2, n3, n4, n5⟩ := hn
    show (M y' x' || decide (y' = y2 ∧ x' = x2)) = true
    rw [decide_eq_true (show y' = y2 ∧ x' = x2 by omega), Bool.or_true])
theorem NB.all {O M : B2} {dg : Bool} {y x : Nat} (h : NB O M dg y x 9) : ∀ y' x', nbr dg y x y' x' → O y' x' = true → M y' x' = true := fun a b h1 h2 => h a b h1 (by obtain ⟨n1, n2, n3, n4, n5⟩ := h1; omega) h2
theorem cntB_none : cntB (fun _ _ => false) = 0 := by
  have h := sumF_rng (f := fun y : Nat => sumF (fun x : Nat => if (false : Bool) = true then 1 else 0) 32) (b := 0) 32 (fun y _ => by
    have h2 := sumF_rng (f := fun x : Nat => if (false : Bool) = true then (1 : Int) else 0) (b := 0) 32 (fun x _ => ⟨Int.le_refl _, Int.le_refl _⟩)
    exact ⟨h2.1, Int.le_trans h2.2 (by decide)⟩)
  have h3 := h.1
  have h4 := Int.le_trans h.2 (by decide : ((32 : Nat) : Int) * 0 ≤ 0)
  unfold cntB
  exact Int.le_antisymm h4 h3
theorem MR.two {I : F2} {M0 M : B2} {y x m : Nat} {z : Int} (h : MR I (fun a b => M0 a b || M a b)) (hy : y < 32) (hx : x < 32) : MR (up2 (up2 I 143 m z) 142 (32 * y + x) 1) (fun a b => M0 a b || (fun a b => M a b || decide (a = y ∧ b = x)) a b) :=
  (MR.pt (MR.cell (up2_row _ _ _ _ (by decide)) h) hy hx).congr (fun a b => Bool.or_assoc _ _ _)
def MC (I : F2) (O M : B2) (dg : Bool) (n k : Nat) : Prop := ∀ i, i < k → ∀ y x, y < n → x < n → I 143 i = 32 * (y : Int) + (x : Int) → ∀ y' x', nbr dg y x y' x' → O y' x' = true → M y' x' = true
def MI (I : F2) (M : B2) (n k : Nat) (z : Int) : Prop := (z = 1 ∧ ∀ i, i < k → ∀ y x, y < n → x < n → I 143 i = 32 * (y : Int) + (x : Int) → ¬ edgB n y x) ∨ (z = 0 ∧ ∃ y x, M y x = true ∧ edgB n y x)
def MZ (M : B2) (n : Nat) (z : Int) : Prop := (z = 1 ∧ ∀ y x, M y x = true → ¬ edgB n y x) ∨ (z = 0 ∧ ∃ y x, M y x = true ∧ edgB n y x)
theorem li_way1 (X : AX) (I J : Nat → Nat → Int) (cc ss : Nat) {Q : (Option AV ⊕ Nat) → AS → Prop} {D M0 : B2} {n sy sx : Nat} (I0 : F2) (w1 : Option AV) (hn32 : n ≤ 32) (M1 : B2) (m1 : Nat) (I1 : F2) (k y x : Nat) (ins : Int) (hy : y < n) (hx : x < n) {M : B2} {m : Nat} (w : Nat) (v8 v9 : Option AV) (hw : w ≤ 9) (hW : I 135 17 = (n : Int)) (hD : DM I D) (hF : onlyG I0 I) (hMR : MR I (fun a b => M0 a b || M a b)) (hWL : WL I M n m) (hMG : MG (frO D M0 n true) M true sy sx) (hMyx : M y x = true) (hNB : NB (frO D M0 n true) M true y x w) (hs1 : ∀ a b, M1 a b = true → M a b = true) (hs2 : ∀ i, i < m1 → I 143 i = I1 143 i) (hs3 : m1 ≤ m) (hs4 : I 135 20 = ins) (K : ∀ (I' : F2) (M : B2) (m : Nat) (v8 v9 : Option AV), I' 135 17 = (n : Int) → DM I' D → onlyG I0 I' → MR I' (fun a b => M0 a b || M a b) → WL I' M n m → MG (frO D M0 n true) M true sy sx → NB (frO D M0 n true) M true y x 9 → (∀ a b, M1 a b = true → M a b = true) → (∀ i, i < m1 → I' 143 i = I1 143 i) → m1 ≤ m → I' 135 20 = ins → Ev X k_X9_meets (193, [some (vr 135), w1, some (vi 1), some (vi (m : Int)), some (vi (k : Int)), some (vi (x : Int)), some (vi (y : Int)), some (vi 9), v8, v9], []) (MS I' J cc ss) Q) : Ev X k_X9_meets (94, [some (vr 135), w1, some (vi 1), some (vi (m : Int)), some (vi (k : Int)), some (vi (x : Int)), some (vi (y : Int)), some (vi (w : Int)), v8, v9], []) (MS I J cc ss) (Q) := by
  have hle := hWL.le
  refine ev_n (fr' := (98, [some (vr 135), w1, some (vi 1), some (vi (m : Int)), some (vi (k : Int)), some (vi (x : Int)), some (vi (y : Int)), some (vi (w : Int)), v8, v9], [vi 9, vi (w : Int)])) (S' := MS I J cc ss) 2 rfl ?_
  refine ev_ic (c := .ge) (off := 95) rfl (by decide) (fun (g1 : 9 ≤ (w : Int)) => ?_) (fun (g1 : ¬ (9 ≤ (w : Int))) => ?_)
  · show Ev X k_X9_meets (193, [some (vr 135), w1, some (vi 1), some (vi (m : Int)), some (vi (k : Int)), some (vi (x : Int)), some (vi (y : Int)), some (vi (w : Int)), v8, v9], []) (MS I J cc ss) _
    have e9 : w = 9 := by omega
    rw [e9] at hNB ⊢
    exact K I M m _ _ hW hD hF hMR hWL hMG hNB hs1 hs2 hs3 hs4
  · show Ev X k_X9_meets (101, [some (vr 135), w1, some (vi 1), some (vi (m : Int)), some (vi (k : Int)), some (vi (x : Int)), some (vi (y : Int)), some (vi (w : Int)), v8, v9], []) (MS I J cc ss) _
    refine ev_n (fr' := (105, [some (vr 135), w1, some (vi 1), some (vi (m : Int)), some (vi (k : Int)), some (vi (x : Int)), some (vi (y : Int)), some (vi (w : Int)), v8, v9], [vi (opI fRem (w : Int) 3)])) (S' := MS I J cc ss) 3 rfl ?_
    refine ev_eqi (rem_I (by omega) (by omega)) ?_
    show Ev X k_X9_meets (105, [some (vr 135), w1, some (vi 1), some (vi (m : Int)), some (vi (k : Int)), some (vi (x : Int)), some (vi (y : Int)), some (vi (w : Int)), v8, v9], [vi ((w : Int) % 3)]) (MS I J cc ss) _
    refine ev_n (fr' := (106, [some (vr 135), w1, some (vi 1), some (vi (m : Int)), some (vi (k : Int)), some (vi (x : Int)), some (vi (y : Int)), some (vi (w : Int)), v8, v9], [vi 1, vi ((w : Int) % 3)])) (S' := MS I J cc ss) 1 rfl ?_
    refine ev_sub (z := ((w : Int) % 3) - 1) rfl (by omega) (by omega) (by omega) ?_
    show Ev X k_X9_meets (107, [some (vr 135), w1, some (vi 1), some (vi (m : Int)), some (vi (k : Int)), some (vi (x : Int)), some (vi (y : Int)), some (vi (w : Int)), v8, v9], [vi (((w : Int) % 3) - 1)]) (MS I J cc ss) _
    refine ev_n (fr' := (113, [some (vr 135), w1, some (vi 1), some (vi (m : Int)), some (vi (k : Int)), some (vi (x : Int)), some (vi (y : Int)), some (vi (w : Int)), some (vi (((w : Int) % 3) - 1)), v9], [vi (opI (· / ·) (w : Int) 3)])) (S' := MS I J cc ss) 4 rfl ?_
    refine ev_eqi (div_lit (by omega) (by omega)) ?_
    show Ev X k_X9_meets (113, [some (vr 135), w1, some (vi 1), some (vi (m : Int)), some (vi (k : Int)), some (vi (x : Int)), some (vi (y : Int)), some (vi (w : Int)), some (vi (((w : Int) % 3) - 1)), v9], [vi ((w : Int) / 3)]) (MS I J cc ss) _
    refine ev_n (fr' := (114, [some (vr 135), w1, some (vi 1), some (vi (m : Int)), some (vi (k : Int)), some (vi (x : Int)), some (vi (y : Int)), some (vi (w : Int)), some (vi (((w : Int) % 3) - 1)), v9], [vi 1, vi ((w : Int) / 3)])) (S' := MS I J cc ss) 1 rfl ?_
    refine ev_sub (z := ((w : Int) / 3) - 1) rfl (by omega) (by omega) (by omega) ?_
    show Ev X k_X9_meets (115, [some (vr 135), w1, some (vi 1), some (vi (m : Int)), some (vi (k : Int)), some (vi (x : Int)), some (vi (y : Int)), some (vi (w : Int)), some (vi (((w : Int) % 3) - 1)), v9], [vi (((w : Int) / 3) - 1)]) (MS I J cc ss) _
    refine ev_n (fr' := (136, [some (vr 135), w1, some (vi 1), some (vi (m : Int)), some (vi (k : Int)), some (vi (x : Int)), some (vi (y : Int)), some (vi (w : Int)), some (vi (((w : Int) % 3) - 1)), some (vi (((w : Int) / 3) - 1))], [vi (((w : Int) % 3) - 1), vi (x : Int), vr 135])) (S' := MS I J cc ss) 6 rfl ?_
    refine ev_add (z := (x : Int) + ((w : Int) % 3) - 1) rfl (by omega) (by omega) (by omega) ?_
    show Ev X k_X9_meets (137, [some (vr 135), w1, some (vi 1), some (vi (m : Int)), some (vi (k : Int)), some (vi (x : Int)), some (vi (y : Int)), some (vi (w : Int)), some (vi (((w : Int) % 3) - 1)), some (vi (((w : Int) / 3) - 1))], [vi ((x : Int) + ((w : Int) % 3) - 1), vr 135]) (MS I J cc ss) _
    refine ev_n (fr' := (141, [some (vr 135), w1, some (vi 1), some (vi (m : Int)), some (vi (k : Int)), some (vi (x : Int)), some (vi (y : Int)), some (vi (w : Int)), some (vi (((w : Int) % 3) - 1)), some (vi (((w : Int) / 3) - 1))], [vi (((w : Int) / 3) - 1), vi (y : Int), vi ((x : Int) + ((w : Int) % 3) - 1), vr 135])) (S' := MS I J cc ss) 2 rfl ?_
    refine ev_add (z := (y : Int) + ((w : Int) / 3) - 1) rfl (by omega) (by omega) (by omega) ?_
    show Ev X k_X9_meets (142, [some (vr 135), w1, some (vi 1), some (vi (m : Int)), some (vi (k : Int)), some (vi (x : Int)), some (vi (y : Int)), some (vi (w : Int)), some (vi (((w : Int) % 3) - 1)), some (vi (((w : Int) / 3) - 1))], [vi ((y : Int) + ((w : Int) / 3) - 1), vi ((x : Int) + ((w : Int) % 3) - 1), vr 135]) (MS I J cc ss) _
    refine ev_n (fr' := (143, [some (vr 135), w1, some (vi 1), some (vi (m : Int)), some (vi (k : Int)), some (vi (x : Int)), some (vi (y : Int)), some (vi (w : Int)), some (vi (((w : Int) % 3) - 1)), some (vi (((w : Int) / 3) - 1))], [vi 1, vi ((y : Int) + ((w : Int) / 3) - 1), vi ((x : Int) + ((w : Int) % 3) - 1), vr 135])) (S' := MS I J cc ss) 1 rfl ?_
    refine ev_cv rfl rfl rfl ⟨Nat.le_of_ble_eq_true rfl, Nat.le_of_ble_eq_true rfl⟩ (sp_isOf1 X _ _ _ _ ((x : Int) + ((w : Int) % 3) - 1) ((y : Int) + ((w : Int) / 3) - 1) hn32 hW hD hMR (by omega) (by omega)) ?_
    show Ev X k_X9_meets (146, [some (vr 135), w1, some (vi 1), some (vi (m : Int)), some (vi (k : Int)), some (vi (x : Int)), some (vi (y : Int)), some (vi (w : Int)), some (vi (((w : Int) % 3) - 1)), some (vi (((w : Int) / 3) - 1))], [vi (if isOB D (fun a b => M0 a b || M a b) n true ((x : Int) + ((w : Int) % 3) - 1) ((y : Int) + ((w : Int) / 3) - 1) then 1 else 0)]) (MS I J cc ss) _
    refine ev_bne _ rfl (by decide) (fun (g2 : isOB D (fun a b => M0 a b || M a b) n true ((x : Int) + ((w : Int) % 3) - 1) ((y : Int) + ((w : Int) / 3) - 1)) => ?_) (fun (g2 : ¬ (isOB D (fun a b => M0 a b || M a b) n true ((x : Int) + ((w : Int) % 3) - 1) ((y : Int) + ((w : Int) / 3) - 1))) => ?_)
    · show Ev X k_X9_meets (152, [some (vr 135), w1, some (vi 1), some (vi (m : Int)), some (vi (k : Int)), some (vi (x : Int)), some (vi (y : Int)), some (vi (w : Int)), some (vi (((w : Int) % 3) - 1)), some (vi (((w : Int) / 3) - 1))], []) (MS I J cc ss) _
      obtain ⟨p1, p2, p3, p4, p5, p6⟩ := g2
      obtain ⟨y2, e1⟩ : ∃ y2 : Nat, (y : Int) + (w : Int) / 3 - 1 = (y2 : Int) := ⟨((y : Int) + (w : Int) / 3 - 1).toNat, by omega⟩
      obtain ⟨x2, e2⟩ : ∃ x2 : Nat, (x : Int) + (w : Int) % 3 - 1 = (x2 : Int) := ⟨((x : Int) + (w : Int) % 3 - 1).toNat, by omega⟩
      rw [e1, Int.toNat_natCast, e2, Int.toNat_natCast] at p5
      rw [e1, Int.toNat_natCast, e2, Int.toNat_natCast] at p6
      have p5 : (M0 y2 x2 || M y2 x2) = false := p5
      rw [Bool.or_eq_false_iff] at p5
      have hM2 := p5.2
      have hy2 : y2 < n := by omega
      have hx2 : x2 < n := by omega
      have ho2 : frO D M0 n true y2 x2 = true := frO_iff.mpr ⟨hy2, hx2, p5.1, p6⟩
      have hnb : nbr true y x y2 x2 := ⟨by omega, by omega, by omega, by omega, Or.inl rfl⟩
      have hlt := hWL.lt hn32 hy2 hx2 hM2
      refine ev_n (fr' := (163, [some (vr 135), w1, some (vi 1), some (vi (m : Int)), some (vi (k : Int)), some (vi (x : Int)), some (vi (y : Int)), some (vi (w : Int)), some (vi (((w : Int) % 3) - 1)), some (vi (((w : Int) / 3) - 1))], [vi (((w : Int) / 3) - 1), vi (y : Int), vi 32, vi (m : Int), vr 143])) (S' := MS I J cc ss) 6 rfl ?_
      refine ev_add (z := (y : Int) + ((w : Int) / 3) - 1) rfl (by omega) (by omega) (by omega) ?_
      show Ev X k_X9_meets (164, [some (vr 135), w1, some (vi 1), some (vi (m : Int)), some (vi (k : Int)), some (vi (x : Int)), some (vi (y : Int)), some (vi (w : Int)), some (vi (((w : Int) % 3) - 1)), some (vi (((w : Int) / 3) - 1))], [vi ((y : Int) + ((w : Int) / 3) - 1), vi 32, vi (m : Int), vr 143]) (MS I J cc ss) _
      refine ev_mul (z := 32 * (y : Int) + 32 * ((w : Int) / 3) - 32) rfl (by omega) (by omega) (by omega) ?_
      show Ev X k_X9_meets (165, [some (vr 135), w1, some (vi 1), some (vi (m : Int)), some (vi (k : Int)), some (vi (x : Int)), some (vi (y : Int)), some (vi (w : Int)), some (vi (((w : Int) % 3) - 1)), some (vi (((w : Int) / 3) - 1))], [vi (32 * (y : Int) + 32 * ((w : Int) / 3) - 32), vi (m : Int), vr 143]) (MS I J cc ss) _
      refine ev_n (fr' := (167, [some (vr 135), w1, some (vi 1), some (vi (m : Int)), some (vi (k : Int)), some (vi (x : Int)), some (vi (y : Int)), some (vi (w : Int)), some (vi (((w : Int) % 3) - 1)), some (vi (((w : Int) / 3) - 1))], [vi (x : Int), vi (32 * (y : Int) + 32 * ((w : Int) / 3) - 32), vi (m : Int), vr 143])) (S' := MS I J cc ss) 1 rfl ?_
      refine ev_add (z := 32 * (y : Int) + 32 * ((w : Int) / 3) + (x : Int) - 32) rfl (by omega) (by omega) (by omega) ?_
      show Ev X k_X9_meets (168, [some (vr 135), w1, some (vi 1), some (vi (m : Int)), some (vi (k : Int)), some (vi (x : Int)), some (vi (y : Int)), some (vi (w : Int)), some (vi (((w : Int) % 3) - 1)), some (vi (((w : Int) / 3) - 1))], [vi (32 * (y : Int) + 32 * ((w : Int) / 3) + (x : Int) - 32), vi (m : Int), vr 143]) (MS I J cc ss) _
      refine ev_n (fr' := (170, [some (vr 135), w1, some (vi 1), some (vi (m : Int)), some (vi (k : Int)), some (vi (x : Int)), some (vi (y : Int)), some (vi (w : Int)), some (vi (((w : Int) % 3) - 1)), some (vi (((w : Int) / 3) - 1))], [vi (((w : Int) % 3) - 1), vi (32 * (y : Int) + 32 * ((w : Int) / 3) + (x : Int) - 32), vi (m : Int), vr 143])) (S' := MS I J cc ss) 1 rfl ?_
      refine ev_add (z := 32 * (y : Int) + 32 * ((w : Int) / 3) + (x : Int) + ((w : Int) % 3) - 33) rfl (by omega) (by omega) (by omega) ?_
      show Ev X k_X9_meets (171, [some (vr 135), w1, some (vi 1), some (vi (m : Int)), some (vi (k : Int)), some (vi (x : Int)), some (vi (y : Int)), some (vi (w : Int)), some (vi (((w : Int) % 3) - 1)), some (vi (((w : Int) / 3) - 1))], [vi (32 * (y : Int) + 32 * ((w : Int) / 3) + (x : Int) + ((w : Int) % 3) - 33), vi (m : Int), vr 143]) (MS I J cc ss) _
      refine ev_eqi (show 32 * (y : Int) + 32 * ((w : Int) / 3) + (x : Int) + ((w : Int) % 3) - 33 = 32 * (y2 : Int) + (x2 : Int) from by omega) ?_
      show Ev X k_X9_meets (171, [some (vr 135), w1, some (vi 1), some (vi (m : Int)), some (vi (k : Int)), some (vi (x : Int)), some (vi (y : Int)), some (vi (w : Int)), some (vi (((w : Int) % 3) - 1)), some (vi (((w : Int) / 3) - 1))], [vi (32 * (y2 : Int) + (x2 : Int)), vi (m : Int), vr 143]) (MS I J cc ss) _
      refine ev_iasN (j := m) rfl rfl (by omega) (by omega) ?_
      show Ev X k_X9_meets (172, [some (vr 135), w1, some (vi 1), some (vi (m : Int)), some (vi (k : Int)), some (vi (x : Int)), some (vi (y : Int)), some (vi (w : Int)), some (vi (((w : Int) % 3) - 1)), some (vi (((w : Int) / 3) - 1))], []) (MS (up2 I 143 m (32 * (y2 : Int) + (x2 : Int))) J cc ss) _
      refine ev_n (fr' := (181, [some (vr 135), w1, some (vi 1), some (vi (m : Int)), some (vi (k : Int)), some (vi (x : Int)), some (vi (y : Int)), some (vi (w : Int)), some (vi (((w : Int) % 3) - 1)), some (vi (((w : Int) / 3) - 1))], [vi (m : Int), vr 143, vr 142])) (S' := MS (up2 I 143 m (32 * (y2 : Int) + (x2 : Int))) J cc ss) 5 rfl ?_
      refine ev_iaN (j := m) (z := 32 * (y2 : Int) + (x2 : Int)) rfl rfl (by omega) (by omega) (show (up2 I 143 m (32 * (y2 : Int) + (x2 : Int))) 143 m = 32 * (y2 : Int) + (x2 : Int) from up2_same _ _ _ _) ?_
      show Ev X k_X9_meets (182, [some (vr 135), w1, some (vi 1), some (vi (m : Int)), some (vi (k : Int)), some (vi (x : Int)), some (vi (y : Int)), some (vi (w : Int)), some (vi (((w : Int) % 3) - 1)), some (vi (((w : Int) / 3) - 1))], [vi (32 * (y2 : Int) + (x2 : Int)), vr 142]) (MS (up2 I 143 m (32 * (y2 : Int) + (x2 : Int))) J cc ss) _
      refine ev_n (fr' := (183, [some (vr 135), w1, some (vi 1), some (vi (m : Int)), some (vi (k : Int)), some (vi (x : Int)), some (vi (y : Int)), some (vi (w : Int)), some (vi (((w : Int) % 3) - 1)), some (vi (((w : Int) / 3) - 1))], [vi 1, vi (32 * (y2 : Int) + (x2 : Int)), vr 142])) (S' := MS (up2 I 143 m (32 * (y2 : Int) + (x2 : Int))) J cc ss) 1 rfl ?_
      refine ev_basN (j := 32 * y2 + x2) rfl rfl (by omega) (by omega) (Or.inr rfl) ?_
      show Ev X k_X9_meets (184, [some (vr 135), w1, some (vi 1), some (vi (m : Int)), some (vi (k : Int)), some (vi (x : Int)), some (vi (y : Int)), some (vi (w : Int)), some (vi (((w : Int) % 3) - 1)), some (vi (((w : Int) / 3) - 1))], []) (MS (up2 (up2 I 143 m (32 * (y2 : Int) + (x2 : Int))) 142 (32 * y2 + x2) 1) J cc ss) _
      refine ev_inc (z := (m : Int) + 1) rfl rfl (by omega) (by omega) (by omega) rfl ?_
      show Ev X k_X9_meets (187, [some (vr 135), w1, some (vi 1), some (vi ((m : Int) + 1)), some (vi (k : Int)), some (vi (x : Int)), some (vi (y : Int)), some (vi (w : Int)), some (vi (((w : Int) % 3) - 1)), some (vi (((w : Int) / 3) - 1))], []) (MS (up2 (up2 I 143 m (32 * (y2 : Int) + (x2 : Int))) 142 (32 * y2 + x2) 1) J cc ss) _
      refine ev_inc (z := (w : Int) + 1) rfl rfl (by omega) (by omega) (by omega) rfl ?_
      show Ev X k_X9_meets (190, [some (vr 135), w1, some (vi 1), some (vi ((m : Int) + 1)), some (vi (k : Int)), some (vi (x : Int)), some (vi (y : Int)), some (vi ((w : Int) + 1)), some (vi (((w : Int) % 3) - 1)), some (vi (((w : Int) / 3) - 1))], []) (MS (up2 (up2 I 143 m (32 * (y2 : Int) + (x2 : Int))) 142 (32 * y2 + x2) 1) J cc ss) _
      refine ev_n (fr' := (94, [some (vr 135), w1, some (vi 1), some (vi ((m : Int) + 1)), some (vi (k : Int)), some (vi (x : Int)), some (vi (y : Int)), some (vi ((w : Int) + 1)), some (vi (((w : Int) % 3) - 1)), some (vi (((w : Int) / 3) - 1))], [])) (S' := MS (up2 (up2 I 143 m (32 * (y2 : Int) + (x2 : Int))) 142 (32 * y2 + x2) 1) J cc ss) 1 rfl ?_
      exact li_way1 X _ _ cc ss I0 w1 hn32 M1 m1 I1 k y x ins hy hx (w + 1) _ _ (by omega) (by rw [up2_row _ _ _ _ (by decide), up2_row _ _ _ _ (by decide)]; exact hW) (DM.cell (by rw [up2_row _ _ _ _ (by decide), up2_row _ _ _ _ (by decide)]) hD) ((hF.upA (Or.inr rfl)).upA (Or.inl rfl)) (hMR.two (by omega) (by omega)) (WL.cell (fun i _ => by rw [up2_row _ _ _ _ (by decide)]) (hWL.add hn32 hy2 hx2 hM2)) (hMG.add hMyx hnb ho2) (or_mono _ _ hMyx) (hNB.take (by omega) (by omega)) (fun a b q => or_mono a b (hs1 a b q)) (fun i hi => by rw [up2_row _ _ _ _ (by decide), up2_ne2 _ _ _ _ (by omega)]; exact hs2 i hi) (by omega) (by rw [up2_row _ _ _ _ (by decide), up2_row _ _ _ _ (by decide)]; exact hs4) K
    · show Ev X k_X9_meets (149, [some (vr 135), w1, some (vi 1), some (vi (m : Int)), some (vi (k : Int)), some (vi (x : Int)), some (vi (y : Int)), some (vi (w : Int)), some (vi (((w : Int) % 3) - 1)), some (vi (((w : Int) / 3) - 1))], []) (MS I J cc ss) _
      refine ev_n (fr' := (187, [some (vr 135), w1, some (vi 1), some (vi (m : Int)), some (vi (k : Int)), some (vi (x : Int)), some (vi (y : Int)), some (vi (w : Int)), some (vi (((w : Int) % 3) - 1)), some (vi (((w : Int) / 3) - 1))], [])) (S' := MS I J cc ss) 1 rfl ?_
      refine ev_inc (z := (w : Int) + 1) rfl rfl (by omega) (by omega) (by omega) rfl ?_
      show Ev X k_X9_meets (190, [some (vr 135), w1, some (vi 1), some (vi (m : Int)), some (vi (k : Int)), some (vi (x : Int)), some (vi (y : Int)), some (vi ((w : Int) + 1)), some (vi (((w : Int) % 3) - 1)), some (vi (((w : Int) / 3) - 1))], []) (MS I J cc ss) _
      refine ev_n (fr' := (94, [some (vr 135), w1, some (vi 1), some (vi (m : Int)), some (vi (k : Int)), some (vi (x : Int)), some (vi (y : Int)), some (vi ((w : Int) + 1)), some (vi (((w : Int) % 3) - 1)), some (vi (((w : Int) / 3) - 1))], [])) (S' := MS I J cc ss) 1 rfl ?_
      exact li_way1 X _ _ cc ss I0 w1 hn32 M1 m1 I1 k y x ins hy hx (w + 1) _ _ (by omega) hW hD hF hMR hWL hMG hMyx (hNB.skip (by omega) (by omega) g2) hs1 hs2 hs3 hs4 K
termination_by 9 - w
decreasing_by all_goals omega
theorem lp_meet1 (X : AX) (I J : Nat → Nat → Int) (cc ss : Nat) {D M0 : B2} {n sy sx : Nat} (I0 : F2) (w1 : Option AV) (hn32 : n ≤ 32) (hs : frO D M0 n true sy sx = true) {M : B2} {m : Nat} (k : Nat) (v5 v6 v7 v8 v9 : Option AV) (hkm : k ≤ m) (hW : I 135 17 = (n : Int)) (hD : DM I D) (hF : onlyG I0 I) (hMR : MR I (fun a b => M0 a b || M a b)) (hWL : WL I M n m) (hMG : MG (frO D M0 n true) M true sy sx) (hC : MC I (frO D M0 n true) M true n k) (hI : MI I M n k (I 135 20)) : Ev X k_X9_meets (24, [some (vr 135), w1, some (vi 1), some (vi (m : Int)), some (vi (k : Int)), v5, v6, v7, v8, v9], []) (MS I J cc ss) (PV cc ss none (fun I' J' => J' = J ∧ onlyG I0 I' ∧ ∃ G, isGrp (frO D M0 n true) true sy sx G ∧ MR I' (fun a b => M0 a b || G a b) ∧ MZ G n (I' 135 20))) := by
  have hle := hWL.le
  refine ev_n (fr' := (27, [some (vr 135), w1, some (vi 1), some (vi (m : Int)), some (vi (k : Int)), v5, v6, v7, v8, v9], [vi (m : Int), vi (k : Int)])) (S' := MS I J cc ss) 2 rfl ?_
  refine ev_ic (c := .ge) (off := 172) rfl (by decide) (fun (g1 : (m : Int) ≤ (k : Int)) => ?_) (fun (g1 : ¬ ((m : Int) ≤ (k : Int))) => ?_)
  · show Ev X k_X9_meets (199, [some (vr 135), w1, some (vi 1), some (vi (m : Int)), some (vi (k : Int)), v5, v6, v7, v8, v9], []) (MS I J cc ss) _
    refine ev_r rfl rfl rfl ?_
    have e9 : k = m := by omega
    rw [e9] at hC hI
    have hnn : ∀ y x, M y x = true → y < n ∧ x < n := fun y x q => by
      have := frO_iff.mp (Rch.inO hs (hMG.2 y x q)); exact ⟨this.1, this.2.1⟩
    refine ⟨_, _, rfl, rfl, rfl, hF, M, ⟨hMG.1, hMG.2, fun y x y' x' h1 h2 h3 => ?_⟩, hMR, ?_⟩
    · obtain ⟨i, q1, q2⟩ := hWL.2.1 y x h1
      exact hC i q1 y x (hnn y x h1).1 (hnn y x h1).2 q2 y' x' h2 h3
    · rcases hI with ⟨q1, q2⟩ | ⟨q1, q2⟩
      · refine Or.inl ⟨q1, fun y x h1 => ?_⟩
        obtain ⟨i, q3, q4⟩ := hWL.2.1 y x h1
        exact q2 i q3 y x (hnn y x h1).1 (hnn y x h1).2 q4
      · exact Or.inr ⟨q1, q2⟩
  · show Ev X k_X9_meets (30, [some (vr 135), w1, some (vi 1), some (vi (m : Int)), some (vi (k : Int)), v5, v6, v7, v8, v9], []) (MS I J cc ss) _
    obtain ⟨y, x, hy, hx, hk, hM⟩ := hWL.1 k (by omega)
    refine ev_n (fr' := (36, [some (vr 135), w1, some (vi 1), some (vi (m : Int)), some (vi (k : Int)), v5, v6, v7, v8, v9], [vi (k : Int), vr 143])) (S' := MS I J cc ss) 3 rfl ?_
    refine ev_iaN (j := k) (z := 32 * (y : Int) + (x : Int)) rfl rfl (by omega) (by omega) (hk) ?_
    show Ev X k_X9_meets (37, [some (vr 135), w1, some (vi 1), some (vi (m : Int)), some (vi (k : Int)), v5, v6, v7, v8, v9], [vi (32 * (y : Int) + (x : Int))]) (MS I J cc ss) _
    refine ev_n (fr' := (40, [some (vr 135), w1, some (vi 1), some (vi (m : Int)), some (vi (k : Int)), v5, v6, v7, v8, v9], [vi (opI fRem (32 * (y : Int) + (x : Int)) 32)])) (S' := MS I J cc ss) 2 rfl ?_
    refine ev_eqi (show opI fRem (32 * (y : Int) + (x : Int)) 32 = (x : Int) from (rem_I (by omega) (by omega)).trans (by omega)) ?_
    show Ev X k_X9_meets (40, [some (vr 135), w1, some (vi 1), some (vi (m : Int)), some (vi (k : Int)), v5, v6, v7, v8, v9], [vi (x : Int)]) (MS I J cc ss) _
    refine ev_n (fr' := (48, [some (vr 135), w1, some (vi 1), some (vi (m : Int)), some (vi (k : Int)), some (vi (x : Int)), v6, v7, v8, v9], [vi (k : Int), vr 143])) (S' := MS I J cc ss) 4 rfl ?_
    refine ev_iaN (j := k) (z := 32 * (y : Int) + (x : Int)) rfl rfl (by omega) (by omega) (hk) ?_
    show Ev X k_X9_meets (49, [some (vr 135), w1, some (vi 1), some (vi (m : Int)), some (vi (k : Int)), some (vi (x : Int)), v6, v7, v8, v9], [vi (32 * (y : Int) + (x : Int))]) (MS I J cc ss) _
    refine ev_n (fr' := (52, [some (vr 135), w1, some (vi 1), some (vi (m : Int)), some (vi (k : Int)), some (vi (x : Int)), v6, v7, v8, v9], [vi (opI (· / ·) (32 * (y : Int) + (x : Int)) 32)])) (S' := MS I J cc ss) 2 rfl ?_
    refine ev_eqi (show opI (· / ·) (32 * (y : Int) + (x : Int)) 32 = (y : Int) from (div_lit (by omega) (by omega)).trans (by omega)) ?_
    show Ev X k_X9_meets (52, [some (vr 135), w1, some (vi 1), some (vi (m : Int)), some (vi (k : Int)), some (vi (x : Int)), v6, v7, v8, v9], [vi (y : Int)]) (MS I J cc ss) _
    refine ev_n (fr' := (56, [some (vr 135), w1, some (vi 1), some (vi (m : Int)), some (vi (k : Int)), some (vi (x : Int)), some (vi (y : Int)), v7, v8, v9], [vi (x : Int)])) (S' := MS I J cc ss) 2 rfl ?_
    refine ev_if (c := .eq) (off := 30) rfl (by decide) (fun (g2 : (x : Int) = 0) => ?_) (fun (g2 : ¬ ((x : Int) = 0)) => ?_)
    · show Ev X k_X9_meets (86, [some (vr 135), w1, some (vi 1), some (vi (m : Int)), some (vi (k : Int)), some (vi (x : Int)), some (vi (y : Int)), v7, v8, v9], []) (MS I J cc ss) _
      refine ev_n (fr' := (88, [some (vr 135), w1, some (vi 1), some (vi (m : Int)), some (vi (k : Int)), some (vi (x : Int)), some (vi (y : Int)), v7, v8, v9], [vi 0, vr 135])) (S' := MS I J cc ss) 2 rfl ?_
      refine ev_n (fr' := (91, [some (vr 135), w1, some (vi 1), some (vi (m : Int)), some (vi (k : Int)), some (vi (x : Int)), some (vi (y : Int)), v7, v8, v9], [])) (S' := MS (up2 I 135 20 0) J cc ss) 1 rfl ?_
      refine ev_n (fr' := (94, [some (vr 135), w1, some (vi 1), some (vi (m : Int)), some (vi (k : Int)), some (vi (x : Int)), some (vi (y : Int)), some (vi 0), v8, v9], [])) (S' := MS (up2 I 135 20 0) J cc ss) 2 rfl ?_
      refine li_way1 X _ _ cc ss I0 w1 hn32 M m (up2 I 135 20 0) k y x (up2 I 135 20 0 135 20) hy hx 0 _ _ (by omega) (by rw [up2_ne2 _ _ _ _ (by decide)]; exact hW) (DM.cell (up2_row _ _ _ _ (by decide)) hD) hF.upF (MR.cell (up2_row _ _ _ _ (by decide)) hMR) (WL.cell (fun i _ => by rw [up2_row _ _ _ _ (by decide)]) hWL) hMG hM (fun _ _ _ q => absurd q (by omega)) (fun _ _ q => q) (fun _ _ => rfl) (Nat.le_refl _) rfl (fun I1 M' m' v8 v9 hW hD hF hMR hWL hMG hNB hs1 hs2 hs3 hs4 => ?_)
      have hs2 : ∀ i, i < m → I1 143 i = I 143 i := fun i hi => (hs2 i hi).trans (by rw [up2_row _ _ _ _ (by decide)])
      have hI2 : MI I1 M' n (k + 1) (I1 135 20) := Or.inr ⟨hs4.trans (up2_same _ _ _ _), y, x, hs1 _ _ hM, by unfold edgB; omega⟩
      have hC2 : MC I1 (frO D M0 n true) M' true n (k + 1) := fun i hi a b ha hb he => by
        rw [hs2 i (by omega)] at he
        rcases Nat.lt_succ_iff_lt_or_eq.mp hi with q | q
        · exact fun c d h1 h2 => hs1 _ _ (hC i q a b ha hb he c d h1 h2)
        · subst q; rw [hk] at he; rw [show a = y by omega, show b = x by omega]; exact hNB.all
      show Ev X k_X9_meets (193, [some (vr 135), w1, some (vi 1), some (vi (m' : Int)), some (vi (k : Int)), some (vi (x : Int)), some (vi (y : Int)), some (vi 9), v8, v9], []) (MS I1 J cc ss) _
      refine ev_inc (z := (k : Int) + 1) rfl rfl (by omega) (by omega) (by omega) rfl ?_
      show Ev X k_X9_meets (196, [some (vr 135), w1, some (vi 1), some (vi (m' : Int)), some (vi ((k : Int) + 1)), some (vi (x : Int)), some (vi (y : Int)), some (vi 9), v8, v9], []) (MS I1 J cc ss) _
      refine ev_go (t := 24) rfl (by decide) ?_
      show Ev X k_X9_meets (24, [some (vr 135), w1, some (vi 1), some (vi (m' : Int)), some (vi ((k : Int) + 1)), some (vi (x : Int)), some (vi (y : Int)), some (vi 9), v8, v9], []) (MS I1 J cc ss) _
      exact lp_meet1 X _ _ cc ss I0 w1 hn32 hs (k + 1) _ _ _ _ _ (by omega) hW hD hF hMR hWL hMG hC2 hI2
    · show Ev X k_X9_meets (59, [some (vr 135), w1, some (vi 1), some (vi (m : Int)), some (vi (k : Int)), some (vi (x : Int)), some (vi (y : Int)), v7, v8, v9], []) (MS I J cc ss) _
      refine ev_n (fr' := (61, [some (vr 135), w1, some (vi 1), some (vi (m : Int)), some (vi (k : Int)), some (vi (x : Int)), some (vi (y : Int)), v7, v8, v9], [vi (y : Int)])) (S' := MS I J cc ss) 1 rfl ?_
      refine ev_if (c := .eq) (off := 25) rfl (by decide) (fun (g3 : (y : Int) = 0) => ?_) (fun (g3 : ¬ ((y : Int) = 0)) => ?_)
      · show Ev X k_X9_meets (86, [some (vr 135), w1, some (vi 1), some (vi (m : Int)), some (vi (k : Int)), some (vi (x : Int)), some (vi (y : Int)), v7, v8, v9], []) (MS I J cc ss) _
        refine ev_n (fr' := (88, [some (vr 135), w1, some (vi 1), some (vi (m : Int)), some (vi (k : Int)), some (vi (x : Int)), some (vi (y : Int)), v7, v8, v9], [vi 0, vr 135])) (S' := MS I J cc ss) 2 rfl ?_
        refine ev_n (fr' := (91, [some (vr 135), w1, some (vi 1), some (vi (m : Int)), some (vi (k : Int)), some (vi (x : Int)), some (vi (y : Int)), v7, v8, v9], [])) (S' := MS (up2 I 135 20 0) J cc ss) 1 rfl ?_
        refine ev_n (fr' := (94, [some (vr 135), w1, some (vi 1), some (vi (m : Int)), some (vi (k : Int)), some (vi (x : Int)), some (vi (y : Int)), some (vi 0), v8, v9], [])) (S' := MS (up2 I 135 20 0) J cc ss) 2 rfl ?_
        refine li_way1 X _ _ cc ss I0 w1 hn32 M m (up2 I 135 20 0) k y x (up2 I 135 20 0 135 20) hy hx 0 _ _ (by omega) (by rw [up2_ne2 _ _ _ _ (by decide)]; exact hW) (DM.cell (up2_row _ _ _ _ (by decide)) hD) hF.upF (MR.cell (up2_row _ _ _ _ (by decide)) hMR) (WL.cell (fun i _ => by rw [up2_row _ _ _ _ (by decide)]) hWL) hMG hM (fun _ _ _ q => absurd q (by omega)) (fun _ _ q => q) (fun _ _ => rfl) (Nat.le_refl _) rfl (fun I1 M' m' v8 v9 hW hD hF hMR hWL hMG hNB hs1 hs2 hs3 hs4 => ?_)
        have hs2 : ∀ i, i < m → I1 143 i = I 143 i := fun i hi => (hs2 i hi).trans (by rw [up2_row _ _ _ _ (by decide)])
        have hI2 : MI I1 M' n (k + 1) (I1 135 20) := Or.inr ⟨hs4.trans (up2_same _ _ _ _), y, x, hs1 _ _ hM, by unfold edgB; omega⟩
        have hC2 : MC I1 (frO D M0 n true) M' true n (k + 1) := fun i hi a b ha hb he => by
          rw [hs2 i (by omega)] at he
          rcases Nat.lt_succ_iff_lt_or_eq.mp hi with q | q
          · exact fun c d h1 h2 => hs1 _ _ (hC i q a b ha hb he c d h1 h2)
          · subst q; rw [hk] at he; rw [show a = y by omega, show b = x by omega]; exact hNB.all
        show Ev X k_X9_meets (193, [some (vr 135), w1, some (vi 1), some (vi (m' : Int)), some (vi (k : Int)), some (vi (x : Int)), some (vi (y : Int)), some (vi 9), v8, v9], []) (MS I1 J cc ss) _
        refine ev_inc (z := (k : Int) + 1) rfl rfl (by omega) (by omega) (by omega) rfl ?_
        show Ev X k_X9_meets (196, [some (vr 135), w1, some (vi 1), some (vi (m' : Int)), some (vi ((k : Int) + 1)), some (vi (x : Int)), some (vi (y : Int)), some (vi 9), v8, v9], []) (MS I1 J cc ss) _
        refine ev_go (t := 24) rfl (by decide) ?_
        show Ev X k_X9_meets (24, [some (vr 135), w1, some (vi 1), some (vi (m' : Int)), some (vi ((k : Int) + 1)), some (vi (x : Int)), some (vi (y : Int)), some (vi 9), v8, v9], []) (MS I1 J cc ss) _
        exact lp_meet1 X _ _ cc ss I0 w1 hn32 hs (k + 1) _ _ _ _ _ (by omega) hW hD hF hMR hWL hMG hC2 hI2
      · show Ev X k_X9_meets (64, [some (vr 135), w1, some (vi 1), some (vi (m : Int)), some (vi (k : Int)), some (vi (x : Int)), some (vi (y : Int)), v7, v8, v9], []) (MS I J cc ss) _
        refine ev_n (fr' := (70, [some (vr 135), w1, some (vi 1), some (vi (m : Int)), some (vi (k : Int)), some (vi (x : Int)), some (vi (y : Int)), v7, v8, v9], [vi (I 135 17), vi (x : Int)])) (S' := MS I J cc ss) 3 rfl ?_
        refine ev_eqi (hW) ?_
        show Ev X k_X9_meets (70, [some (vr 135), w1, some (vi 1), some (vi (m : Int)), some (vi (k : Int)), some (vi (x : Int)), some (vi (y : Int)), v7, v8, v9], [vi (n : Int), vi (x : Int)]) (MS I J cc ss) _
        refine ev_n (fr' := (71, [some (vr 135), w1, some (vi 1), some (vi (m : Int)), some (vi (k : Int)), some (vi (x : Int)), some (vi (y : Int)), v7, v8, v9], [vi 1, vi (n : Int), vi (x : Int)])) (S' := MS I J cc ss) 1 rfl ?_
        refine ev_sub (z := (n : Int) - 1) rfl (by omega) (by omega) (by omega) ?_
        show Ev X k_X9_meets (72, [some (vr 135), w1, some (vi 1), some (vi (m : Int)), some (vi (k : Int)), some (vi (x : Int)), some (vi (y : Int)), v7, v8, v9], [vi ((n : Int) - 1), vi (x : Int)]) (MS I J cc ss) _
        refine ev_ic (c := .eq) (off := 14) rfl (by decide) (fun (g4 : (x : Int) = (n : Int) - 1) => ?_) (fun (g4 : ¬ ((x : Int) = (n : Int) - 1)) => ?_)
        · show Ev X k_X9_meets (86, [some (vr 135), w1, some (vi 1), some (vi (m : Int)), some (vi (k : Int)), some (vi (x : Int)), some (vi (y : Int)), v7, v8, v9], []) (MS I J cc ss) _
          refine ev_n (fr' := (88, [some (vr 135), w1, some (vi 1), some (vi (m : Int)), some (vi (k : Int)), some (vi (x : Int)), some (vi (y : Int)), v7, v8, v9], [vi 0, vr 135])) (S' := MS I J cc ss) 2 rfl ?_
          refine ev_n (fr' := (91, [some (vr 135), w1, some (vi 1), some (vi (m : Int)), some (vi (k : Int)), some (vi (x : Int)), some (vi (y : Int)), v7, v8, v9], [])) (S' := MS (up2 I 135 20 0) J cc ss) 1 rfl ?_
          refine ev_n (fr' := (94, [some (vr 135), w1, some (vi 1), some (vi (m : Int)), some (vi (k : Int)), some (vi (x : Int)), some (vi (y : Int)), some (vi 0), v8, v9], [])) (S' := MS (up2 I 135 20 0) J cc ss) 2 rfl ?_
          refine li_way1 X _ _ cc ss I0 w1 hn32 M m (up2 I 135 20 0) k y x (up2 I 135 20 0 135 20) hy hx 0 _ _ (by omega) (by rw [up2_ne2 _ _ _ _ (by decide)]; exact hW) (DM.cell (up2_row _ _ _ _ (by decide)) hD) hF.upF (MR.cell (up2_row _ _ _ _ (by decide)) hMR) (WL.cell (fun i _ => by rw [up2_row _ _ _ _ (by decide)]) hWL) hMG hM (fun _ _ _ q => absurd q (by omega)) (fun _ _ q => q) (fun _ _ => rfl) (Nat.le_refl _) rfl (fun I1 M' m' v8 v9 hW hD hF hMR hWL hMG hNB hs1 hs2 hs3 hs4 => ?_)
          have hs2 : ∀ i, i < m → I1 143 i = I 143 i := fun i hi => (hs2 i hi).trans (by rw [up2_row _ _ _ _ (by decide)])
          have hI2 : MI I1 M' n (k + 1) (I1 135 20) := Or.inr ⟨hs4.trans (up2_same _ _ _ _), y, x, hs1 _ _ hM, by unfold edgB; omega⟩
          have hC2 : MC I1 (frO D M0 n true) M' true n (k + 1) := fun i hi a b ha hb he => by
            rw [hs2 i (by omega)] at he
            rcases Nat.lt_succ_iff_lt_or_eq.mp hi with q | q
            · exact fun c d h1 h2 => hs1 _ _ (hC i q a b ha hb he c d h1 h2)
            · subst q; rw [hk] at he; rw [show a = y by omega, show b = x by omega]; exact hNB.all
          show Ev X k_X9_meets (193, [some (vr 135), w1, some (vi 1), some (vi (m' : Int)), some (vi (k : Int)), some (vi (x : Int)), some (vi (y : Int)), some (vi 9), v8, v9], []) (MS I1 J cc ss) _
          refine ev_inc (z := (k : Int) + 1) rfl rfl (by omega) (by omega) (by omega) rfl ?_
          show Ev X k_X9_meets (196, [some (vr 135), w1, some (vi 1), some (vi (m' : Int)), some (vi ((k : Int) + 1)), some (vi (x : Int)), some (vi (y : Int)), some (vi 9), v8, v9], []) (MS I1 J cc ss) _
          refine ev_go (t := 24) rfl (by decide) ?_
          show Ev X k_X9_meets (24, [some (vr 135), w1, some (vi 1), some (vi (m' : Int)), some (vi ((k : Int) + 1)), some (vi (x : Int)), some (vi (y : Int)), some (vi 9), v8, v9], []) (MS I1 J cc ss) _
          exact lp_meet1 X _ _ cc ss I0 w1 hn32 hs (k + 1) _ _ _ _ _ (by omega) hW hD hF hMR hWL hMG hC2 hI2
        · show Ev X k_X9_meets (75, [some (vr 135), w1, some (vi 1), some (vi (m : Int)), some (vi (k : Int)), some (vi (x : Int)), some (vi (y : Int)), v7, v8, v9], []) (MS I J cc ss) _
          refine ev_n (fr' := (81, [some (vr 135), w1, some (vi 1), some (vi (m : Int)), some (vi (k : Int)), some (vi (x : Int)), some (vi (y : Int)), v7, v8, v9], [vi (I 135 17), vi (y : Int)])) (S' := MS I J cc ss) 3 rfl ?_
          refine ev_eqi (hW) ?_
          show Ev X k_X9_meets (81, [some (vr 135), w1, some (vi 1), some (vi (m : Int)), some (vi (k : Int)), some (vi (x : Int)), some (vi (y : Int)), v7, v8, v9], [vi (n : Int), vi (y : Int)]) (MS I J cc ss) _
          refine ev_n (fr' := (82, [some (vr 135), w1, some (vi 1), some (vi (m : Int)), some (vi (k : Int)), some (vi (x : Int)), some (vi (y : Int)), v7, v8, v9], [vi 1, vi (n : Int), vi (y : Int)])) (S' := MS I J cc ss) 1 rfl ?_
          refine ev_sub (z := (n : Int) - 1) rfl (by omega) (by omega) (by omega) ?_
          show Ev X k_X9_meets (83, [some (vr 135), w1, some (vi 1), some (vi (m : Int)), some (vi (k : Int)), some (vi (x : Int)), some (vi (y : Int)), v7, v8, v9], [vi ((n : Int) - 1), vi (y : Int)]) (MS I J cc ss) _
          refine ev_ic (c := .ne) (off := 8) rfl (by decide) (fun (g5 : (y : Int) ≠ (n : Int) - 1) => ?_) (fun (g5 : ¬ ((y : Int) ≠ (n : Int) - 1)) => ?_)
          · show Ev X k_X9_meets (91, [some (vr 135), w1, some (vi 1), some (vi (m : Int)), some (vi (k : Int)), some (vi (x : Int)), some (vi (y : Int)), v7, v8, v9], []) (MS I J cc ss) _
            refine ev_n (fr' := (94, [some (vr 135), w1, some (vi 1), some (vi (m : Int)), some (vi (k : Int)), some (vi (x : Int)), some (vi (y : Int)), some (vi 0), v8, v9], [])) (S' := MS I J cc ss) 2 rfl ?_
            refine li_way1 X _ _ cc ss I0 w1 hn32 M m (I) k y x (I 135 20) hy hx 0 _ _ (by omega) hW hD hF hMR hWL hMG hM (fun _ _ _ q => absurd q (by omega)) (fun _ _ q => q) (fun _ _ => rfl) (Nat.le_refl _) rfl (fun I1 M' m' v8 v9 hW hD hF hMR hWL hMG hNB hs1 hs2 hs3 hs4 => ?_)
            have hI2 : MI I1 M' n (k + 1) (I1 135 20) := by
              rw [hs4]
              rcases hI with ⟨q1, q2⟩ | ⟨q1, a, b, q2, q3⟩
              · refine Or.inl ⟨q1, fun i hi a b ha hb he => ?_⟩
                rw [hs2 i (by omega)] at he
                rcases Nat.lt_succ_iff_lt_or_eq.mp hi with q | q
                · exact q2 i q a b ha hb he
                · subst q; rw [hk] at he; unfold edgB; omega
              · exact Or.inr ⟨q1, a, b, hs1 _ _ q2, q3⟩
            have hC2 : MC I1 (frO D M0 n true) M' true n (k + 1) := fun i hi a b ha hb he => by
              rw [hs2 i (by omega)] at he
              rcases Nat.lt_succ_iff_lt_or_eq.mp hi with q | q
              · exact fun c d h1 h2 => hs1 _ _ (hC i q a b ha hb he c d h1 h2)
              · subst q; rw [hk] at he; rw [show a = y by omega, show b = x by omega]; exact hNB.all
            show Ev X k_X9_meets (193, [some (vr 135), w1, some (vi 1), some (vi (m' : Int)), some (vi (k : Int)), some (vi (x : Int)), some (vi (y : Int)), some (vi 9), v8, v9], []) (MS I1 J cc ss) _
            refine ev_inc (z := (k : Int) + 1) rfl rfl (by omega) (by omega) (by omega) rfl ?_
            show Ev X k_X9_meets (196, [some (vr 135), w1, some (vi 1), some (vi (m' : Int)), some (vi ((k : Int) + 1)), some (vi (x : Int)), some (vi (y : Int)), some (vi 9), v8, v9], []) (MS I1 J cc ss) _
            refine ev_go (t := 24) rfl (by decide) ?_
            show Ev X k_X9_meets (24, [some (vr 135), w1, some (vi 1), some (vi (m' : Int)), some (vi ((k : Int) + 1)), some (vi (x : Int)), some (vi (y : Int)), some (vi 9), v8, v9], []) (MS I1 J cc ss) _
            exact lp_meet1 X _ _ cc ss I0 w1 hn32 hs (k + 1) _ _ _ _ _ (by omega) hW hD hF hMR hWL hMG hC2 hI2
          · show Ev X k_X9_meets (86, [some (vr 135), w1, some (vi 1), some (vi (m : Int)), some (vi (k : Int)), some (vi (x : Int)), some (vi (y : Int)), v7, v8, v9], []) (MS I J cc ss) _
            refine ev_n (fr' := (88, [some (vr 135), w1, some (vi 1), some (vi (m : Int)), some (vi (k : Int)), some (vi (x : Int)), some (vi (y : Int)), v7, v8, v9], [vi 0, vr 135])) (S' := MS I J cc ss) 2 rfl ?_
            refine ev_n (fr' := (91, [some (vr 135), w1, some (vi 1), some (vi (m : Int)), some (vi (k : Int)), some (vi (x : Int)), some (vi (y : Int)), v7, v8, v9], [])) (S' := MS (up2 I 135 20 0) J cc ss) 1 rfl ?_
            refine ev_n (fr' := (94, [some (vr 135), w1, some (vi 1), some (vi (m : Int)), some (vi (k : Int)), some (vi (x : Int)), some (vi (y : Int)), some (vi 0), v8, v9], [])) (S' := MS (up2 I 135 20 0) J cc ss) 2 rfl ?_
            refine li_way1 X _ _ cc ss I0 w1 hn32 M m (up2 I 135 20 0) k y x (up2 I 135 20 0 135 20) hy hx 0 _ _ (by omega) (by rw [up2_ne2 _ _ _ _ (by decide)]; exact hW) (DM.cell (up2_row _ _ _ _ (by decide)) hD) hF.upF (MR.cell (up2_row _ _ _ _ (by decide)) hMR) (WL.cell (fun i _ => by rw [up2_row _ _ _ _ (by decide)]) hWL) hMG hM (fun _ _ _ q => absurd q (by omega)) (fun _ _ q => q) (fun _ _ => rfl) (Nat.le_refl _) rfl (fun I1 M' m' v8 v9 hW hD hF hMR hWL hMG hNB hs1 hs2 hs3 hs4 => ?_)
            have hs2 : ∀ i, i < m → I1 143 i = I 143 i := fun i hi => (hs2 i hi).trans (by rw [up2_row _ _ _ _ (by decide)])
            have hI2 : MI I1 M' n (k + 1) (I1 135 20) := Or.inr ⟨hs4.trans (up2_same _ _ _ _), y, x, hs1 _ _ hM, by unfold edgB; omega⟩
            have hC2 : MC I1 (frO D M0 n true) M' true n (k + 1) := fun i hi a b ha hb he => by
              rw [hs2 i (by omega)] at he
              rcases Nat.lt_succ_iff_lt_or_eq.mp hi with q | q
              · exact fun c d h1 h2 => hs1 _ _ (hC i q a b ha hb he c d h1 h2)
              · subst q; rw [hk] at he; rw [show a = y by omega, show b = x by omega]; exact hNB.all
            show Ev X k_X9_meets (193, [some (vr 135), w1, some (vi 1), some (vi (m' : Int)), some (vi (k : Int)), some (vi (x : Int)), some (vi (y : Int)), some (vi 9), v8, v9], []) (MS I1 J cc ss) _
            refine ev_inc (z := (k : Int) + 1) rfl rfl (by omega) (by omega) (by omega) rfl ?_
            show Ev X k_X9_meets (196, [some (vr 135), w1, some (vi 1), some (vi (m' : Int)), some (vi ((k : Int) + 1)), some (vi (x : Int)), some (vi (y : Int)), some (vi 9), v8, v9], []) (MS I1 J cc ss) _
            refine ev_go (t := 24) rfl (by decide) ?_
            show Ev X k_X9_meets (24, [some (vr 135), w1, some (vi 1), some (vi (m' : Int)), some (vi ((k : Int) + 1)), some (vi (x : Int)), some (vi (y : Int)), some (vi 9), v8, v9], []) (MS I1 J cc ss) _
            exact lp_meet1 X _ _ cc ss I0 w1 hn32 hs (k + 1) _ _ _ _ _ (by omega) hW hD hF hMR hWL hMG hC2 hI2
termination_by 1025 - k
decreasing_by all_goals omega
theorem sp_meets1 (X : AX) (I J : Nat → Nat → Int) (cc ss : Nat) {D M0 : B2} {n : Nat} (sy sx : Nat) (hn32 : n ≤ 32) (hs : frO D M0 n true sy sx = true) (hW : I 135 17 = (n : Int)) (hD : DM I D) (hMR : MR I M0) : Ev X k_X9_meets (0, [some (vr 135), some (vi (32 * (sy : Int) + (sx : Int))), some (vi 1), none, none, none, none, none, none, none], []) (MS I J cc ss) (PV cc ss none (fun I' J' => J' = J ∧ onlyG I I' ∧ ∃ G, isGrp (frO D M0 n true) true sy sx G ∧ MR I' (fun a b => M0 a b || G a b) ∧ MZ G n (I' 135 20))) := by
  refine ev_n (fr' := (8, [some (vr 135), some (vi (32 * (sy : Int) + (sx : Int))), some (vi 1), some (vi 1), none, none, none, none, none, none], [vi (32 * (sy : Int) + (sx : Int)), vi 0, vr 143])) (S' := MS I J cc ss) 6 rfl ?_
  refine ev_iasN (j := 0) rfl rfl (by omega) (by omega) ?_
  show Ev X k_X9_meets (9, [some (vr 135), some (vi (32 * (sy : Int) + (sx : Int))), some (vi 1), some (vi 1), none, none, none, none, none, none], []) (MS (up2 I 143 0 (32 * (sy : Int) + (sx : Int))) J cc ss) _
  refine ev_n (fr' := (15, [some (vr 135), some (vi (32 * (sy : Int) + (sx : Int))), some (vi 1), some (vi 1), none, none, none, none, none, none], [vi 1, vi (32 * (sy : Int) + (sx : Int)), vr 142])) (S' := MS (up2 I 143 0 (32 * (sy : Int) + (sx : Int))) J cc ss) 4 rfl ?_
  refine ev_basN (j := 32 * sy + sx) rfl rfl (by have := frO_iff.mp hs; omega) (by have := frO_iff.mp hs; omega) (Or.inr rfl) ?_
  show Ev X k_X9_meets (16, [some (vr 135), some (vi (32 * (sy : Int) + (sx : Int))), some (vi 1), some (vi 1), none, none, none, none, none, none], []) (MS (up2 (up2 I 143 0 (32 * (sy : Int) + (sx : Int))) 142 (32 * sy + sx) 1) J cc ss) _
  refine ev_n (fr' := (18, [some (vr 135), some (vi (32 * (sy : Int) + (sx : Int))), some (vi 1), some (vi 1), none, none, none, none, none, none], [vi 1, vr 135])) (S' := MS (up2 (up2 I 143 0 (32 * (sy : Int) + (sx : Int))) 142 (32 * sy + sx) 1) J cc ss) 2 rfl ?_
  refine ev_n (fr' := (21, [some (vr 135), some (vi (32 * (sy : Int) + (sx : Int))), some (vi 1), some (vi 1), none, none, none, none, none, none], [])) (S' := MS (up2 (up2 (up2 I 143 0 (32 * (sy : Int) + (sx : Int))) 142 (32 * sy + sx) 1) 135 20 1) J cc ss) 1 rfl ?_
  refine ev_n (fr' := (24, [some (vr 135), some (vi (32 * (sy : Int) + (sx : Int))), some (vi 1), some (vi 1), some (vi 0), none, none, none, none, none], [])) (S' := MS (up2 (up2 (up2 I 143 0 (32 * (sy : Int) + (sx : Int))) 142 (32 * sy + sx) 1) 135 20 1) J cc ss) 2 rfl ?_
  have hsr := frO_iff.mp hs
  have hW0 : WL I (fun _ _ => false) n 0 := ⟨fun i q => absurd q (by omega), fun _ _ q => (by cases q), cntB_none.symm⟩
  refine lp_meet1 X _ _ cc ss I _ hn32 hs (M := fun a b => (fun _ _ => false) a b || decide (a = sy ∧ b = sx)) (m := 1) 0 _ _ _ _ _ (by omega) ?_ ?_ ?_ ?_ ?_ ?_ (fun i q => absurd q (by omega)) (Or.inl ⟨up2_same _ _ _ _, fun i q => absurd q (by omega)⟩)
  · rw [up2_ne2 _ _ _ _ (by decide), up2_row _ _ _ _ (by decide), up2_row _ _ _ _ (by decide)]; exact hW
  · exact DM.cell (by rw [up2_row _ _ _ _ (by decide), up2_row _ _ _ _ (by decide), up2_row _ _ _ _ (by decide)]) hD
  · exact (((onlyG.refl I).upA (Or.inr rfl)).upA (Or.inl rfl)).upF
  · exact MR.cell (up2_row _ _ _ _ (by decide)) (MR.two (M := fun _ _ => false) (m := 0) (hMR.congr (fun y x => (Bool.or_false _).symm)) (by omega) (by omega))
  · exact WL.cell (fun i _ => by rw [up2_row _ _ _ _ (by decide), up2_row _ _ _ _ (by decide)]) (hW0.add hn32 hsr.1 hsr.2.1 rfl)
  · refine ⟨by show (false || decide (sy = sy ∧ sx = sx)) = true; rw [decide_eq_true ⟨rfl, rfl⟩]; rfl, fun y x q => ?_⟩
    have q : (false || decide (y = sy ∧ x = sx)) = true := q
    rw [Bool.false_or, decide_eq_true_eq] at q
    rw [q.1, q.2]; exact Rch.seed
theorem li_way0 (X : AX) (I J : Nat → Nat → Int) (cc ss : Nat) {Q : (Option AV ⊕ Nat) → AS → Prop} {D M0 : B2} {n sy sx : Nat} (I0 : F2) (w1 : Option AV) (hn32 : n ≤ 32) (M1 : B2) (m1 : Nat) (I1 : F2) (k y x : Nat) (ins : Int) (hy : y < n) (hx : x < n) {M : B2} {m : Nat} (w : Nat) (v8 v9 : Option AV) (hw : w ≤ 9) (hW : I 135 17 = (n : Int)) (hD : DM I D) (hF : onlyG I0 I) (hMR : MR I (fun a b => M0 a b || M a b)) (hWL : WL I M n m) (hMG : MG (frO D M0 n false) M false sy sx) (hMyx : M y x = true) (hNB : NB (frO D M0 n false) M false y x w) (hs1 : ∀ a b, M1 a b = true → M a b = true) (hs2 : ∀ i, i < m1 → I 143 i = I1 143 i) (hs3 : m1 ≤ m) (hs4 : I 135 20 = ins) (K : ∀ (I' : F2) (M : B2) (m : Nat) (v8 v9 : Option AV), I' 135 17 = (n : Int) → DM I' D → onlyG I0 I' → MR I' (fun a b => M0 a b || M a b) → WL I' M n m → MG (frO D M0 n false) M false sy sx → NB (frO D M0 n false) M false y x 9 → (∀ a b, M1 a b = true → M a b = true) → (∀ i, i < m1 → I' 143 i = I1 143 i) → m1 ≤ m → I' 135 20 = ins → Ev X k_X9_meets (193, [some (vr 135), w1, some (vi 0), some (vi (m : Int)), some (vi (k : Int)), some (vi (x : Int)), some (vi (y : Int)), some (vi 9), v8, v9], []) (MS I' J cc ss) Q) : Ev X k_X9_meets (94, [some (vr 135), w1, some (vi 0), some (vi (m : Int)), some (vi (k : Int)), some (vi (x : Int)), some (vi (y : Int)), some (vi (w : Int)), v8, v9], []) (MS I J cc ss) (Q) := by
  have hle := hWL.le
  refine ev_n (fr' := (98, [some (vr 135), w1, some (vi 0), some (vi (m : Int)), some (vi (k : Int)), some (vi (x : Int)), some (vi (y : Int)), some (vi (w : Int)), v8, v9], [vi 9, vi (w : Int)])) (S' := MS I J cc ss) 2 rfl ?_
  refine ev_ic (c := .ge) (off := 95) rfl (by decide) (fun (g1 : 9 ≤ (w : Int)) => ?_) (fun (g1 : ¬ (9 ≤ (w : Int))) => ?_)
  · show Ev X k_X9_meets (193, [some (vr 135), w1, some (vi 0), some (vi (m : Int)), some (vi (k : Int)), some (vi (x : Int)), some (vi (y : Int)), some (vi (w : Int)), v8, v9], []) (MS I J cc ss) _
    have e9 : w = 9 := by omega
    rw [e9] at hNB ⊢
    exact K I M m _ _ hW hD hF hMR hWL hMG hNB hs1 hs2 hs3 hs4
  · show Ev X k_X9_meets (101, [some (vr 135), w1, some (vi 0), some (vi (m : Int)), some (vi (k : Int)), some (vi (x : Int)), some (vi (y : Int)), some (vi (w : Int)), v8, v9], []) (MS I J cc ss) _
    refine ev_n (fr' := (105, [some (vr 135), w1, some (vi 0), some (vi (m : Int)), some (vi (k : Int)), some (vi (x : Int)), some (vi (y : Int)), some (vi (w : Int)), v8, v9], [vi (opI fRem (w : Int) 3)])) (S' := MS I J cc ss) 3 rfl ?_
    refine ev_eqi (rem_I (by omega) (by omega)) ?_
    show Ev X k_X9_meets (105, [some (vr 135), w1, some (vi 0), some (vi (m : Int)), some (vi (k : Int)), some (vi (x : Int)), some (vi (y : Int)), some (vi (w : Int)), v8, v9], [vi ((w : Int) % 3)]) (MS I J cc ss) _
    refine ev_n (fr' := (106, [some (vr 135), w1, some (vi 0), some (vi (m : Int)), some (vi (k : Int)), some (vi (x : Int)), some (vi (y : Int)), some (vi (w : Int)), v8, v9], [vi 1, vi ((w : Int) % 3)])) (S' := MS I J cc ss) 1 rfl ?_
    refine ev_sub (z := ((w : Int) % 3) - 1) rfl (by omega) (by omega) (by omega) ?_
    show Ev X k_X9_meets (107, [some (vr 135), w1, some (vi 0), some (vi (m : Int)), some (vi (k : Int)), some (vi (x : Int)), some (vi (y : Int)), some (vi (w : Int)), v8, v9], [vi (((w : Int) % 3) - 1)]) (MS I J cc ss) _
    refine ev_n (fr' := (113, [some (vr 135), w1, some (vi 0), some (vi (m : Int)), some (vi (k : Int)), some (vi (x : Int)), some (vi (y : Int)), some (vi (w : Int)), some (vi (((w : Int) % 3) - 1)), v9], [vi (opI (· / ·) (w : Int) 3)])) (S' := MS I J cc ss) 4 rfl ?_
    refine ev_eqi (div_lit (by omega) (by omega)) ?_
    show Ev X k_X9_meets (113, [some (vr 135), w1, some (vi 0), some (vi (m : Int)), some (vi (k : Int)), some (vi (x : Int)), some (vi (y : Int)), some (vi (w : Int)), some (vi (((w : Int) % 3) - 1)), v9], [vi ((w : Int) / 3)]) (MS I J cc ss) _
    refine ev_n (fr' := (114, [some (vr 135), w1, some (vi 0), some (vi (m : Int)), some (vi (k : Int)), some (vi (x : Int)), some (vi (y : Int)), some (vi (w : Int)), some (vi (((w : Int) % 3) - 1)), v9], [vi 1, vi ((w : Int) / 3)])) (S' := MS I J cc ss) 1 rfl ?_
    refine ev_sub (z := ((w : Int) / 3) - 1) rfl (by omega) (by omega) (by omega) ?_
    show Ev X k_X9_meets (115, [some (vr 135), w1, some (vi 0), some (vi (m : Int)), some (vi (k : Int)), some (vi (x : Int)), some (vi (y : Int)), some (vi (w : Int)), some (vi (((w : Int) % 3) - 1)), v9], [vi (((w : Int) / 3) - 1)]) (MS I J cc ss) _
    refine ev_n (fr' := (123, [some (vr 135), w1, some (vi 0), some (vi (m : Int)), some (vi (k : Int)), some (vi (x : Int)), some (vi (y : Int)), some (vi (w : Int)), some (vi (((w : Int) % 3) - 1)), some (vi (((w : Int) / 3) - 1))], [vi (((w : Int) % 3) - 1)])) (S' := MS I J cc ss) 4 rfl ?_
    refine ev_if (c := .eq) (off := 8) rfl (by decide) (fun (g2 : ((w : Int) % 3) - 1 = 0) => ?_) (fun (g2 : ¬ (((w : Int) % 3) - 1 = 0)) => ?_)
    · show Ev X k_X9_meets (131, [some (vr 135), w1, some (vi 0), some (vi (m : Int)), some (vi (k : Int)), some (vi (x : Int)), some (vi (y : Int)), some (vi (w : Int)), some (vi (((w : Int) % 3) - 1)), some (vi (((w : Int) / 3) - 1))], []) (MS I J cc ss) _
      refine ev_n (fr' := (136, [some (vr 135), w1, some (vi 0), some (vi (m : Int)), some (vi (k : Int)), some (vi (x : Int)), some (vi (y : Int)), some (vi (w : Int)), some (vi (((w : Int) % 3) - 1)), some (vi (((w : Int) / 3) - 1))], [vi (((w : Int) % 3) - 1), vi (x : Int), vr 135])) (S' := MS I J cc ss) 3 rfl ?_
      refine ev_add (z := (x : Int) + ((w : Int) % 3) - 1) rfl (by omega) (by omega) (by omega) ?_
      show Ev X k_X9_meets (137, [some (vr 135), w1, some (vi 0), some (vi (m : Int)), some (vi (k : Int)), some (vi (x : Int)), some (vi (y : Int)), some (vi (w : Int)), some (vi (((w : Int) % 3) - 1)), some (vi (((w : Int) / 3) - 1))], [vi ((x : Int) + ((w : Int) % 3) - 1), vr 135]) (MS I J cc ss) _
      refine ev_n (fr' := (141, [some (vr 135), w1, some (vi 0), some (vi (m : Int)), some (vi (k : Int)), some (vi (x : Int)), some (vi (y : Int)), some (vi (w : Int)), some (vi (((w : Int) % 3) - 1)), some (vi (((w : Int) / 3) - 1))], [vi (((w : Int) / 3) - 1), vi (y : Int), vi ((x : Int) + ((w : Int) % 3) - 1), vr 135])) (S' := MS I J cc ss) 2 rfl ?_
      refine ev_add (z := (y : Int) + ((w : Int) / 3) - 1) rfl (by omega) (by omega) (by omega) ?_
      show Ev X k_X9_meets (142, [some (vr 135), w1, some (vi 0), some (vi (m : Int)), some (vi (k : Int)), some (vi (x : Int)), some (vi (y : Int)), some (vi (w : Int)), some (vi (((w : Int) % 3) - 1)), some (vi (((w : Int) / 3) - 1))], [vi ((y : Int) + ((w : Int) / 3) - 1), vi ((x : Int) + ((w : Int) % 3) - 1), vr 135]) (MS I J cc ss) _
      refine ev_n (fr' := (143, [some (vr 135), w1, some (vi 0), some (vi (m : Int)), some (vi (k : Int)), some (vi (x : Int)), some (vi (y : Int)), some (vi (w : Int)), some (vi (((w : Int) % 3) - 1)), some (vi (((w : Int) / 3) - 1))], [vi 0, vi ((y : Int) + ((w : Int) / 3) - 1), vi ((x : Int) + ((w : Int) % 3) - 1), vr 135])) (S' := MS I J cc ss) 1 rfl ?_
      refine ev_cv rfl rfl rfl ⟨Nat.le_of_ble_eq_true rfl, Nat.le_of_ble_eq_true rfl⟩ (sp_isOf0 X _ _ _ _ ((x : Int) + ((w : Int) % 3) - 1) ((y : Int) + ((w : Int) / 3) - 1) hn32 hW hD hMR (by omega) (by omega)) ?_
      show Ev X k_X9_meets (146, [some (vr 135), w1, some (vi 0), some (vi (m : Int)), some (vi (k : Int)), some (vi (x : Int)), some (vi (y : Int)), some (vi (w : Int)), some (vi (((w : Int) % 3) - 1)), some (vi (((w : Int) / 3) - 1))], [vi (if isOB D (fun a b => M0 a b || M a b) n false ((x : Int) + ((w : Int) % 3) - 1) ((y : Int) + ((w : Int) / 3) - 1) then 1 else 0)]) (MS I J cc ss) _
      refine ev_bne _ rfl (by decide) (fun (g3 : isOB D (fun a b => M0 a b || M a b) n false ((x : Int) + ((w : Int) % 3) - 1) ((y : Int) + ((w : Int) / 3) - 1)) => ?_) (fun (g3 : ¬ (isOB D (fun a b => M0 a b || M a b) n false ((x : Int) + ((w : Int) % 3) - 1) ((y : Int) + ((w : Int) / 3) - 1))) => ?_)
      · show Ev X k_X9_meets (152, [some (vr 135), w1, some (vi 0), some (vi (m : Int)), some (vi (k : Int)), some (vi (x : Int)), some (vi (y : Int)), some (vi (w : Int)), some (vi (((w : Int) % 3) - 1)), some (vi (((w : Int) / 3) - 1))], []) (MS I J cc ss) _
        obtain ⟨p1, p2, p3, p4, p5, p6⟩ := g3
        obtain ⟨y2, e1⟩ : ∃ y2 : Nat, (y : Int) + (w : Int) / 3 - 1 = (y2 : Int) := ⟨((y : Int) + (w : Int) / 3 - 1).toNat, by omega⟩
        obtain ⟨x2, e2⟩ : ∃ x2 : Nat, (x : Int) + (w : Int) % 3 - 1 = (x2 : Int) := ⟨((x : Int) + (w : Int) % 3 - 1).toNat, by omega⟩
        rw [e1, Int.toNat_natCast, e2, Int.toNat_natCast] at p5
        rw [e1, Int.toNat_natCast, e2, Int.toNat_natCast] at p6
        have p5 : (M0 y2 x2 || M y2 x2) = false := p5
        rw [Bool.or_eq_false_iff] at p5
        have hM2 := p5.2
        have hy2 : y2 < n := by omega
        have hx2 : x2 < n := by omega
        have ho2 : frO D M0 n false y2 x2 = true := frO_iff.mpr ⟨hy2, hx2, p5.1, p6⟩
        have hnb : nbr false y x y2 x2 := ⟨by omega, by omega, by omega, by omega, by omega⟩
        have hlt := hWL.lt hn32 hy2 hx2 hM2
        refine ev_n (fr' := (163, [some (vr 135), w1, some (vi 0), some (vi (m : Int)), some (vi (k : Int)), some (vi (x : Int)), some (vi (y : Int)), some (vi (w : Int)), some (vi (((w : Int) % 3) - 1)), some (vi (((w : Int) / 3) - 1))], [vi (((w : Int) / 3) - 1), vi (y : Int), vi 32, vi (m : Int), vr 143])) (S' := MS I J cc ss) 6 rfl ?_
        refine ev_add (z := (y : Int) + ((w : Int) / 3) - 1) rfl (by omega) (by omega) (by omega) ?_
        show Ev X k_X9_meets (164, [some (vr 135), w1, some (vi 0), some (vi (m : Int)), some (vi (k : Int)), some (vi (x : Int)), some (vi (y : Int)), some (vi (w : Int)), some (vi (((w : Int) % 3) - 1)), some (vi (((w : Int) / 3) - 1))], [vi ((y : Int) + ((w : Int) / 3) - 1), vi 32, vi (m : Int), vr 143]) (MS I J cc ss) _
        refine ev_mul (z := 32 * (y : Int) + 32 * ((w : Int) / 3) - 32) rfl (by omega) (by omega) (by omega) ?_
        show Ev X k_X9_meets (165, [some (vr 135), w1, some (vi 0), some (vi (m : Int)), some (vi (k : Int)), some (vi (x : Int)), some (vi (y : Int)), some (vi (w : Int)), some (vi (((w : Int) % 3) - 1)), some (vi (((w : Int) / 3) - 1))], [vi (32 * (y : Int) + 32 * ((w : Int) / 3) - 32), vi (m : Int), vr 143]) (MS I J cc ss) _
        refine ev_n (fr' := (167, [some (vr 135), w1, some (vi 0), some (vi (m : Int)), some (vi (k : Int)), some (vi (x : Int)), some (vi (y : Int)), some (vi (w : Int)), some (vi (((w : Int) % 3) - 1)), some (vi (((w : Int) / 3) - 1))], [vi (x : Int), vi (32 * (y : Int) + 32 * ((w : Int) / 3) - 32), vi (m : Int), vr 143])) (S' := MS I J cc ss) 1 rfl ?_
        refine ev_add (z := 32 * (y : Int) + 32 * ((w : Int) / 3) + (x : Int) - 32) rfl (by omega) (by omega) (by omega) ?_
        show Ev X k_X9_meets (168, [some (vr 135), w1, some (vi 0), some (vi (m : Int)), some (vi (k : Int)), some (vi (x : Int)), some (vi (y : Int)), some (vi (w : Int)), some (vi (((w : Int) % 3) - 1)), some (vi (((w : Int) / 3) - 1))], [vi (32 * (y : Int) + 32 * ((w : Int) / 3) + (x : Int) - 32), vi (m : Int), vr 143]) (MS I J cc ss) _
        refine ev_n (fr' := (170, [some (vr 135), w1, some (vi 0), some (vi (m : Int)), some (vi (k : Int)), some (vi (x : Int)), some (vi (y : Int)), some (vi (w : Int)), some (vi (((w : Int) % 3) - 1)), some (vi (((w : Int) / 3) - 1))], [vi (((w : Int) % 3) - 1), vi (32 * (y : Int) + 32 * ((w : Int) / 3) + (x : Int) - 32), vi (m : Int), vr 143])) (S' := MS I J cc ss) 1 rfl ?_
        refine ev_add (z := 32 * (y : Int) + 32 * ((w : Int) / 3) + (x : Int) + ((w : Int) % 3) - 33) rfl (by omega) (by omega) (by omega) ?_
        show Ev X k_X9_meets (171, [some (vr 135), w1, some (vi 0), some (vi (m : Int)), some (vi (k : Int)), some (vi (x : Int)), some (vi (y : Int)), some (vi (w : Int)), some (vi (((w : Int) % 3) - 1)), some (vi (((w : Int) / 3) - 1))], [vi (32 * (y : Int) + 32 * ((w : Int) / 3) + (x : Int) + ((w : Int) % 3) - 33), vi (m : Int), vr 143]) (MS I J cc ss) _
        refine ev_eqi (show 32 * (y : Int) + 32 * ((w : Int) / 3) + (x : Int) + ((w : Int) % 3) - 33 = 32 * (y2 : Int) + (x2 : Int) from by omega) ?_
        show Ev X k_X9_meets (171, [some (vr 135), w1, some (vi 0), some (vi (m : Int)), some (vi (k : Int)), some (vi (x : Int)), some (vi (y : Int)), some (vi (w : Int)), some (vi (((w : Int) % 3) - 1)), some (vi (((w : Int) / 3) - 1))], [vi (32 * (y2 : Int) + (x2 : Int)), vi (m : Int), vr 143]) (MS I J cc ss) _
        refine ev_iasN (j := m) rfl rfl (by omega) (by omega) ?_
        show Ev X k_X9_meets (172, [some (vr 135), w1, some (vi 0), some (vi (m : Int)), some (vi (k : Int)), some (vi (x : Int)), some (vi (y : Int)), some (vi (w : Int)), some (vi (((w : Int) % 3) - 1)), some (vi (((w : Int) / 3) - 1))], []) (MS (up2 I 143 m (32 * (y2 : Int) + (x2 : Int))) J cc ss) _
        refine ev_n (fr' := (181, [some (vr 135), w1, some (vi 0), some (vi (m : Int)), some (vi (k : Int)), some (vi (x : Int)), some (vi (y : Int)), some (vi (w : Int)), some (vi (((w : Int) % 3) - 1)), some (vi (((w : Int) / 3) - 1))], [vi (m : Int), vr 143, vr 142])) (S' := MS (up2 I 143 m (32 * (y2 : Int) + (x2 : Int))) J cc ss) 5 rfl ?_
        refine ev_iaN (j := m) (z := 32 * (y2 : Int) + (x2 : Int)) rfl rfl (by omega) (by omega) (show (up2 I 143 m (32 * (y2 : Int) + (x2 : Int))) 143 m = 32 * (y2 : Int) + (x2 : Int) from up2_same _ _ _ _) ?_
        show Ev X k_X9_meets (182, [some (vr 135), w1, some (vi 0), some (vi (m : Int)), some (vi (k : Int)), some (vi (x : Int)), some (vi (y : Int)), some (vi (w : Int)), some (vi (((w : Int) % 3) - 1)), some (vi (((w : Int) / 3) - 1))], [vi (32 * (y2 : Int) + (x2 : Int)), vr 142]) (MS (up2 I 143 m (32 * (y2 : Int) + (x2 : Int))) J cc ss) _
        refine ev_n (fr' := (183, [some (vr 135), w1, some (vi 0), some (vi (m : Int)), some (vi (k : Int)), some (vi (x : Int)), some (vi (y : Int)), some (vi (w : Int)), some (vi (((w : Int) % 3) - 1)), some (vi (((w : Int) / 3) - 1))], [vi 1, vi (32 * (y2 : Int) + (x2 : Int)), vr 142])) (S' := MS (up2 I 143 m (32 * (y2 : Int) + (x2 : Int))) J cc ss) 1 rfl ?_
        refine ev_basN (j := 32 * y2 + x2) rfl rfl (by omega) (by omega) (Or.inr rfl) ?_
        show Ev X k_X9_meets (184, [some (vr 135), w1, some (vi 0), some (vi (m : Int)), some (vi (k : Int)), some (vi (x : Int)), some (vi (y : Int)), some (vi (w : Int)), some (vi (((w : Int) % 3) - 1)), some (vi (((w : Int) / 3) - 1))], []) (MS (up2 (up2 I 143 m (32 * (y2 : Int) + (x2 : Int))) 142 (32 * y2 + x2) 1) J cc ss) _
        refine ev_inc (z := (m : Int) + 1) rfl rfl (by omega) (by omega) (by omega) rfl ?_
        show Ev X k_X9_meets (187, [some (vr 135), w1, some (vi 0), some (vi ((m : Int) + 1)), some (vi (k : Int)), some (vi (x : Int)), some (vi (y : Int)), some (vi (w : Int)), some (vi (((w : Int) % 3) - 1)), some (vi (((w : Int) / 3) - 1))], []) (MS (up2 (up2 I 143 m (32 * (y2 : Int) + (x2 : Int))) 142 (32 * y2 + x2) 1) J cc ss) _
        refine ev_inc (z := (w : Int) + 1) rfl rfl (by omega) (by omega) (by omega) rfl ?_
        show Ev X k_X9_meets (190, [some (vr 135), w1, some (vi 0), some (vi ((m : Int) + 1)), some (vi (k : Int)), some (vi (x : Int)), some (vi (y : Int)), some (vi ((w : Int) + 1)), some (vi (((w : Int) % 3) - 1)), some (vi (((w : Int) / 3) - 1))], []) (MS (up2 (up2 I 143 m (32 * (y2 : Int) + (x2 : Int))) 142 (32 * y2 + x2) 1) J cc ss) _
        refine ev_n (fr' := (94, [some (vr 135), w1, some (vi 0), some (vi ((m : Int) + 1)), some (vi (k : Int)), some (vi (x : Int)), some (vi (y : Int)), some (vi ((w : Int) + 1)), some (vi (((w : Int) % 3) - 1)), some (vi (((w : Int) / 3) - 1))], [])) (S' := MS (up2 (up2 I 143 m (32 * (y2 : Int) + (x2 : Int))) 142 (32 * y2 + x2) 1) J cc ss) 1 rfl ?_
        exact li_way0 X _ _ cc ss I0 w1 hn32 M1 m1 I1 k y x ins hy hx (w + 1) _ _ (by omega) (by rw [up2_row _ _ _ _ (by decide), up2_row _ _ _ _ (by decide)]; exact hW) (DM.cell (by rw [up2_row _ _ _ _ (by decide), up2_row _ _ _ _ (by decide)]) hD) ((hF.upA (Or.inr rfl)).upA (Or.inl rfl)) (hMR.two (by omega) (by omega)) (WL.cell (fun i _ => by rw [up2_row _ _ _ _ (by decide)]) (hWL.add hn32 hy2 hx2 hM2)) (hMG.add hMyx hnb ho2) (or_mono _ _ hMyx) (hNB.take (by omega) (by omega)) (fun a b q => or_mono a b (hs1 a b q)) (fun i hi => by rw [up2_row _ _ _ _ (by decide), up2_ne2 _ _ _ _ (by omega)]; exact hs2 i hi) (by omega) (by rw [up2_row _ _ _ _ (by decide), up2_row _ _ _ _ (by decide)]; exact hs4) K
      · show Ev X k_X9_meets (149, [some (vr 135), w1, some (vi 0), some (vi (m : Int)), some (vi (k : Int)), some (vi (x : Int)), some (vi (y : Int)), some (vi (w : Int)), some (vi (((w : Int) % 3) - 1)), some (vi (((w : Int) / 3) - 1))], []) (MS I J cc ss) _
        refine ev_n (fr' := (187, [some (vr 135), w1, some (vi 0), some (vi (m : Int)), some (vi (k : Int)), some (vi (x : Int)), some (vi (y : Int)), some (vi (w : Int)), some (vi (((w : Int) % 3) - 1)), some (vi (((w : Int) / 3) - 1))], [])) (S' := MS I J cc ss) 1 rfl ?_
        refine ev_inc (z := (w : Int) + 1) rfl rfl (by omega) (by omega) (by omega) rfl ?_
        show Ev X k_X9_meets (190, [some (vr 135), w1, some (vi 0), some (vi (m : Int)), some (vi (k : Int)), some (vi (x : Int)), some (vi (y : Int)), some (vi ((w : Int) + 1)), some (vi (((w : Int) % 3) - 1)), some (vi (((w : Int) / 3) - 1))], []) (MS I J cc ss) _
        refine ev_n (fr' := (94, [some (vr 135), w1, some (vi 0), some (vi (m : Int)), some (vi (k : Int)), some (vi (x : Int)), some (vi (y : Int)), some (vi ((w : Int) + 1)), some (vi (((w : Int) % 3) - 1)), some (vi (((w : Int) / 3) - 1))], [])) (S' := MS I J cc ss) 1 rfl ?_
        exact li_way0 X _ _ cc ss I0 w1 hn32 M1 m1 I1 k y x ins hy hx (w + 1) _ _ (by omega) hW hD hF hMR hWL hMG hMyx (hNB.skip (by omega) (by omega) g3) hs1 hs2 hs3 hs4 K
    · show Ev X k_X9_meets (126, [some (vr 135), w1, some (vi 0), some (vi (m : Int)), some (vi (k : Int)), some (vi (x : Int)), some (vi (y : Int)), some (vi (w : Int)), some (vi (((w : Int) % 3) - 1)), some (vi (((w : Int) / 3) - 1))], []) (MS I J cc ss) _
      refine ev_n (fr' := (128, [some (vr 135), w1, some (vi 0), some (vi (m : Int)), some (vi (k : Int)), some (vi (x : Int)), some (vi (y : Int)), some (vi (w : Int)), some (vi (((w : Int) % 3) - 1)), some (vi (((w : Int) / 3) - 1))], [vi (((w : Int) / 3) - 1)])) (S' := MS I J cc ss) 1 rfl ?_
      refine ev_if (c := .ne) (off := 59) rfl (by decide) (fun (g4 : ((w : Int) / 3) - 1 ≠ 0) => ?_) (fun (g4 : ¬ (((w : Int) / 3) - 1 ≠ 0)) => ?_)
      · show Ev X k_X9_meets (187, [some (vr 135), w1, some (vi 0), some (vi (m : Int)), some (vi (k : Int)), some (vi (x : Int)), some (vi (y : Int)), some (vi (w : Int)), some (vi (((w : Int) % 3) - 1)), some (vi (((w : Int) / 3) - 1))], []) (MS I J cc ss) _
        refine ev_inc (z := (w : Int) + 1) rfl rfl (by omega) (by omega) (by omega) rfl ?_
        show Ev X k_X9_meets (190, [some (vr 135), w1, some (vi 0), some (vi (m : Int)), some (vi (k : Int)), some (vi (x : Int)), some (vi (y : Int)), some (vi ((w : Int) + 1)), some (vi (((w : Int) % 3) - 1)), some (vi (((w : Int) / 3) - 1))], []) (MS I J cc ss) _
        refine ev_n (fr' := (94, [some (vr 135), w1, some (vi 0), some (vi (m : Int)), some (vi (k : Int)), some (vi (x : Int)), some (vi (y : Int)), some (vi ((w : Int) + 1)), some (vi (((w : Int) % 3) - 1)), some (vi (((w : Int) / 3) - 1))], [])) (S' := MS I J cc ss) 1 rfl ?_
        exact li_way0 X _ _ cc ss I0 w1 hn32 M1 m1 I1 k y x ins hy hx (w + 1) _ _ (by omega) hW hD hF hMR hWL hMG hMyx (hNB.skipd (by omega) (by omega)) hs1 hs2 hs3 hs4 K
      · show Ev X k_X9_meets (131, [some (vr 135), w1, some (vi 0), some (vi (m : Int)), some (vi (k : Int)), some (vi (x : Int)), some (vi (y : Int)), some (vi (w : Int)), some (vi (((w : Int) % 3) - 1)), some (vi (((w : Int) / 3) - 1))], []) (MS I J cc ss) _
        refine ev_n (fr' := (136, [some (vr 135), w1, some (vi 0), some (vi (m : Int)), some (vi (k : Int)), some (vi (x : Int)), some (vi (y : Int)), some (vi (w : Int)), some (vi (((w : Int) % 3) - 1)), some (vi (((w : Int) / 3) - 1))], [vi (((w : Int) % 3) - 1), vi (x : Int), vr 135])) (S' := MS I J cc ss) 3 rfl ?_
        refine ev_add (z := (x : Int) + ((w : Int) % 3) - 1) rfl (by omega) (by omega) (by omega) ?_
        show Ev X k_X9_meets (137, [some (vr 135), w1, some (vi 0), some (vi (m : Int)), some (vi (k : Int)), some (vi (x : Int)), some (vi (y : Int)), some (vi (w : Int)), some (vi (((w : Int) % 3) - 1)), some (vi (((w : Int) / 3) - 1))], [vi ((x : Int) + ((w : Int) % 3) - 1), vr 135]) (MS I J cc ss) _
        refine ev_n (fr' := (141, [some (vr 135), w1, some (vi 0), some (vi (m : Int)), some (vi (k : Int)), some (vi (x : Int)), some (vi (y : Int)), some (vi (w : Int)), some (vi (((w : Int) % 3) - 1)), some (vi (((w : Int) / 3) - 1))], [vi (((w : Int) / 3) - 1), vi (y : Int), vi ((x : Int) + ((w : Int) % 3) - 1), vr 135])) (S' := MS I J cc ss) 2 rfl ?_
        refine ev_add (z := (y : Int) + ((w : Int) / 3) - 1) rfl (by omega) (by omega) (by omega) ?_
        show Ev X k_X9_meets (142, [some (vr 135), w1, some (vi 0), some (vi (m : Int)), some (vi (k : Int)), some (vi (x : Int)), some (vi (y : Int)), some (vi (w : Int)), some (vi (((w : Int) % 3) - 1)), some (vi (((w : Int) / 3) - 1))], [vi ((y : Int) + ((w : Int) / 3) - 1), vi ((x : Int) + ((w : Int) % 3) - 1), vr 135]) (MS I J cc ss) _
        refine ev_n (fr' := (143, [some (vr 135), w1, some (vi 0), some (vi (m : Int)), some (vi (k : Int)), some (vi (x : Int)), some (vi (y : Int)), some (vi (w : Int)), some (vi (((w : Int) % 3) - 1)), some (vi (((w : Int) / 3) - 1))], [vi 0, vi ((y : Int) + ((w : Int) / 3) - 1), vi ((x : Int) + ((w : Int) % 3) - 1), vr 135])) (S' := MS I J cc ss) 1 rfl ?_
        refine ev_cv rfl rfl rfl ⟨Nat.le_of_ble_eq_true rfl, Nat.le_of_ble_eq_true rfl⟩ (sp_isOf0 X _ _ _ _ ((x : Int) + ((w : Int) % 3) - 1) ((y : Int) + ((w : Int) / 3) - 1) hn32 hW hD hMR (by omega) (by omega)) ?_
        show Ev X k_X9_meets (146, [some (vr 135), w1, some (vi 0), some (vi (m : Int)), some (vi (k : Int)), some (vi (x : Int)), some (vi (y : Int)), some (vi (w : Int)), some (vi (((w : Int) % 3) - 1)), some (vi (((w : Int) / 3) - 1))], [vi (if isOB D (fun a b => M0 a b || M a b) n false ((x : Int) + ((w : Int) % 3) - 1) ((y : Int) + ((w : Int) / 3) - 1) then 1 else 0)]) (MS I J cc ss) _
        refine ev_bne _ rfl (by decide) (fun (g5 : isOB D (fun a b => M0 a b || M a b) n false ((x : Int) + ((w : Int) % 3) - 1) ((y : Int) + ((w : Int) / 3) - 1)) => ?_) (fun (g5 : ¬ (isOB D (fun a b => M0 a b || M a b) n false ((x : Int) + ((w : Int) % 3) - 1) ((y : Int) + ((w : Int) / 3) - 1))) => ?_)
        · show Ev X k_X9_meets (152, [some (vr 135), w1, some (vi 0), some (vi (m : Int)), some (vi (k : Int)), some (vi (x : Int)), some (vi (y : Int)), some (vi (w : Int)), some (vi (((w : Int) % 3) - 1)), some (vi (((w : Int) / 3) - 1))], []) (MS I J cc ss) _
          obtain ⟨p1, p2, p3, p4, p5, p6⟩ := g5
          obtain ⟨y2, e1⟩ : ∃ y2 : Nat, (y : Int) + (w : Int) / 3 - 1 = (y2 : Int) := ⟨((y : Int) + (w : Int) / 3 - 1).toNat, by omega⟩
          obtain ⟨x2, e2⟩ : ∃ x2 : Nat, (x : Int) + (w : Int) % 3 - 1 = (x2 : Int) := ⟨((x : Int) + (w : Int) % 3 - 1).toNat, by omega⟩
          rw [e1, Int.toNat_natCast, e2, Int.toNat_natCast] at p5
          rw [e1, Int.toNat_natCast, e2, Int.toNat_natCast] at p6
          have p5 : (M0 y2 x2 || M y2 x2) = false := p5
          rw [Bool.or_eq_false_iff] at p5
          have hM2 := p5.2
          have hy2 : y2 < n := by omega
          have hx2 : x2 < n := by omega
          have ho2 : frO D M0 n false y2 x2 = true := frO_iff.mpr ⟨hy2, hx2, p5.1, p6⟩
          have hnb : nbr false y x y2 x2 := ⟨by omega, by omega, by omega, by omega, by omega⟩
          have hlt := hWL.lt hn32 hy2 hx2 hM2
          refine ev_n (fr' := (163, [some (vr 135), w1, some (vi 0), some (vi (m : Int)), some (vi (k : Int)), some (vi (x : Int)), some (vi (y : Int)), some (vi (w : Int)), some (vi (((w : Int) % 3) - 1)), some (vi (((w : Int) / 3) - 1))], [vi (((w : Int) / 3) - 1), vi (y : Int), vi 32, vi (m : Int), vr 143])) (S' := MS I J cc ss) 6 rfl ?_
          refine ev_add (z := (y : Int) + ((w : Int) / 3) - 1) rfl (by omega) (by omega) (by omega) ?_
          show Ev X k_X9_meets (164, [some (vr 135), w1, some (vi 0), some (vi (m : Int)), some (vi (k : Int)), some (vi (x : Int)), some (vi (y : Int)), some (vi (w : Int)), some (vi (((w : Int) % 3) - 1)), some (vi (((w : Int) / 3) - 1))], [vi ((y : Int) + ((w : Int) / 3) - 1), vi 32, vi (m : Int), vr 143]) (MS I J cc ss) _
          refine ev_mul (z := 32 * (y : Int) + 32 * ((w : Int) / 3) - 32) rfl (by omega) (by omega) (by omega) ?_
          show Ev X k_X9_meets (165, [some (vr 135), w1, some (vi 0), some (vi (m : Int)), some (vi (k : Int)), some (vi (x : Int)), some (vi (y : Int)), some (vi (w : Int)), some (vi (((w : Int) % 3) - 1)), some (vi (((w : Int) / 3) - 1))], [vi (32 * (y : Int) + 32 * ((w : Int) / 3) - 32), vi (m : Int), vr 143]) (MS I J cc ss) _
          refine ev_n (fr' := (167, [some (vr 135), w1, some (vi 0), some (vi (m : Int)), some (vi (k : Int)), some (vi (x : Int)), some (vi (y : Int)), some (vi (w : Int)), some (vi (((w : Int) % 3) - 1)), some (vi (((w : Int) / 3) - 1))], [vi (x : Int), vi (32 * (y : Int) + 32 * ((w : Int) / 3) - 32), vi (m : Int), vr 143])) (S' := MS I J cc ss) 1 rfl ?_
          refine ev_add (z := 32 * (y : Int) + 32 * ((w : Int) / 3) + (x : Int) - 32) rfl (by omega) (by omega) (by omega) ?_
          show Ev X k_X9_meets (168, [some (vr 135), w1, some (vi 0), some (vi (m : Int)), some (vi (k : Int)), some (vi (x : Int)), some (vi (y : Int)), some (vi (w : Int)), some (vi (((w : Int) % 3) - 1)), some (vi (((w : Int) / 3) - 1))], [vi (32 * (y : Int) + 32 * ((w : Int) / 3) + (x : Int) - 32), vi (m : Int), vr 143]) (MS I J cc ss) _
          refine ev_n (fr' := (170, [some (vr 135), w1, some (vi 0), some (vi (m : Int)), some (vi (k : Int)), some (vi (x : Int)), some (vi (y : Int)), some (vi (w : Int)), some (vi (((w : Int) % 3) - 1)), some (vi (((w : Int) / 3) - 1))], [vi (((w : Int) % 3) - 1), vi (32 * (y : Int) + 32 * ((w : Int) / 3) + (x : Int) - 32), vi (m : Int), vr 143])) (S' := MS I J cc ss) 1 rfl ?_
          refine ev_add (z := 32 * (y : Int) + 32 * ((w : Int) / 3) + (x : Int) + ((w : Int) % 3) - 33) rfl (by omega) (by omega) (by omega) ?_
          show Ev X k_X9_meets (171, [some (vr 135), w1, some (vi 0), some (vi (m : Int)), some (vi (k : Int)), some (vi (x : Int)), some (vi (y : Int)), some (vi (w : Int)), some (vi (((w : Int) % 3) - 1)), some (vi (((w : Int) / 3) - 1))], [vi (32 * (y : Int) + 32 * ((w : Int) / 3) + (x : Int) + ((w : Int) % 3) - 33), vi (m : Int), vr 143]) (MS I J cc ss) _
          refine ev_eqi (show 32 * (y : Int) + 32 * ((w : Int) / 3) + (x : Int) + ((w : Int) % 3) - 33 = 32 * (y2 : Int) + (x2 : Int) from by omega) ?_
          show Ev X k_X9_meets (171, [some (vr 135), w1, some (vi 0), some (vi (m : Int)), some (vi (k : Int)), some (vi (x : Int)), some (vi (y : Int)), some (vi (w : Int)), some (vi (((w : Int) % 3) - 1)), some (vi (((w : Int) / 3) - 1))], [vi (32 * (y2 : Int) + (x2 : Int)), vi (m : Int), vr 143]) (MS I J cc ss) _
          refine ev_iasN (j := m) rfl rfl (by omega) (by omega) ?_
          show Ev X k_X9_meets (172, [some (vr 135), w1, some (vi 0), some (vi (m : Int)), some (vi (k : Int)), some (vi (x : Int)), some (vi (y : Int)), some (vi (w : Int)), some (vi (((w : Int) % 3) - 1)), some (vi (((w : Int) / 3) - 1))], []) (MS (up2 I 143 m (32 * (y2 : Int) + (x2 : Int))) J cc ss) _
          refine ev_n (fr' := (181, [some (vr 135), w1, some (vi 0), some (vi (m : Int)), some (vi (k : Int)), some (vi (x : Int)), some (vi (y : Int)), some (vi (w : Int)), some (vi (((w : Int) % 3) - 1)), some (vi (((w : Int) / 3) - 1))], [vi (m : Int), vr 143, vr 142])) (S' := MS (up2 I 143 m (32 * (y2 : Int) + (x2 : Int))) J cc ss) 5 rfl ?_
          refine ev_iaN (j := m) (z := 32 * (y2 : Int) + (x2 : Int)) rfl rfl (by omega) (by omega) (show (up2 I 143 m (32 * (y2 : Int) + (x2 : Int))) 143 m = 32 * (y2 : Int) + (x2 : Int) from up2_same _ _ _ _) ?_
          show Ev X k_X9_meets (182, [some (vr 135), w1, some (vi 0), some (vi (m : Int)), some (vi (k : Int)), some (vi (x : Int)), some (vi (y : Int)), some (vi (w : Int)), some (vi (((w : Int) % 3) - 1)), some (vi (((w : Int) / 3) - 1))], [vi (32 * (y2 : Int) + (x2 : Int)), vr 142]) (MS (up2 I 143 m (32 * (y2 : Int) + (x2 : Int))) J cc ss) _
          refine ev_n (fr' := (183, [some (vr 135), w1, some (vi 0), some (vi (m : Int)), some (vi (k : Int)), some (vi (x : Int)), some (vi (y : Int)), some (vi (w : Int)), some (vi (((w : Int) % 3) - 1)), some (vi (((w : Int) / 3) - 1))], [vi 1, vi (32 * (y2 : Int) + (x2 : Int)), vr 142])) (S' := MS (up2 I 143 m (32 * (y2 : Int) + (x2 : Int))) J cc ss) 1 rfl ?_
          refine ev_basN (j := 32 * y2 + x2) rfl rfl (by omega) (by omega) (Or.inr rfl) ?_
          show Ev X k_X9_meets (184, [some (vr 135), w1, some (vi 0), some (vi (m : Int)), some (vi (k : Int)), some (vi (x : Int)), some (vi (y : Int)), some (vi (w : Int)), some (vi (((w : Int) % 3) - 1)), some (vi (((w : Int) / 3) - 1))], []) (MS (up2 (up2 I 143 m (32 * (y2 : Int) + (x2 : Int))) 142 (32 * y2 + x2) 1) J cc ss) _
          refine ev_inc (z := (m : Int) + 1) rfl rfl (by omega) (by omega) (by omega) rfl ?_
          show Ev X k_X9_meets (187, [some (vr 135), w1, some (vi 0), some (vi ((m : Int) + 1)), some (vi (k : Int)), some (vi (x : Int)), some (vi (y : Int)), some (vi (w : Int)), some (vi (((w : Int) % 3) - 1)), some (vi (((w : Int) / 3) - 1))], []) (MS (up2 (up2 I 143 m (32 * (y2 : Int) + (x2 : Int))) 142 (32 * y2 + x2) 1) J cc ss) _
          refine ev_inc (z := (w : Int) + 1) rfl rfl (by omega) (by omega) (by omega) rfl ?_
          show Ev X k_X9_meets (190, [some (vr 135), w1, some (vi 0), some (vi ((m : Int) + 1)), some (vi (k : Int)), some (vi (x : Int)), some (vi (y : Int)), some (vi ((w : Int) + 1)), some (vi (((w : Int) % 3) - 1)), some (vi (((w : Int) / 3) - 1))], []) (MS (up2 (up2 I 143 m (32 * (y2 : Int) + (x2 : Int))) 142 (32 * y2 + x2) 1) J cc ss) _
          refine ev_n (fr' := (94, [some (vr 135), w1, some (vi 0), some (vi ((m : Int) + 1)), some (vi (k : Int)), some (vi (x : Int)), some (vi (y : Int)), some (vi ((w : Int) + 1)), some (vi (((w : Int) % 3) - 1)), some (vi (((w : Int) / 3) - 1))], [])) (S' := MS (up2 (up2 I 143 m (32 * (y2 : Int) + (x2 : Int))) 142 (32 * y2 + x2) 1) J cc ss) 1 rfl ?_
          exact li_way0 X _ _ cc ss I0 w1 hn32 M1 m1 I1 k y x ins hy hx (w + 1) _ _ (by omega) (by rw [up2_row _ _ _ _ (by decide), up2_row _ _ _ _ (by decide)]; exact hW) (DM.cell (by rw [up2_row _ _ _ _ (by decide), up2_row _ _ _ _ (by decide)]) hD) ((hF.upA (Or.inr rfl)).upA (Or.inl rfl)) (hMR.two (by omega) (by omega)) (WL.cell (fun i _ => by rw [up2_row _ _ _ _ (by decide)]) (hWL.add hn32 hy2 hx2 hM2)) (hMG.add hMyx hnb ho2) (or_mono _ _ hMyx) (hNB.take (by omega) (by omega)) (fun a b q => or_mono a b (hs1 a b q)) (fun i hi => by rw [up2_row _ _ _ _ (by decide), up2_ne2 _ _ _ _ (by omega)]; exact hs2 i hi) (by omega) (by rw [up2_row _ _ _ _ (by decide), up2_row _ _ _ _ (by decide)]; exact hs4) K
        · show Ev X k_X9_meets (149, [some (vr 135), w1, some (vi 0), some (vi (m : Int)), some (vi (k : Int)), some (vi (x : Int)), some (vi (y : Int)), some (vi (w : Int)), some (vi (((w : Int) % 3) - 1)), some (vi (((w : Int) / 3) - 1))], []) (MS I J cc ss) _
          refine ev_n (fr' := (187, [some (vr 135), w1, some (vi 0), some (vi (m : Int)), some (vi (k : Int)), some (vi (x : Int)), some (vi (y : Int)), some (vi (w : Int)), some (vi (((w : Int) % 3) - 1)), some (vi (((w : Int) / 3) - 1))], [])) (S' := MS I J cc ss) 1 rfl ?_
          refine ev_inc (z := (w : Int) + 1) rfl rfl (by omega) (by omega) (by omega) rfl ?_
          show Ev X k_X9_meets (190, [some (vr 135), w1, some (vi 0), some (vi (m : Int)), some (vi (k : Int)), some (vi (x : Int)), some (vi (y : Int)), some (vi ((w : Int) + 1)), some (vi (((w : Int) % 3) - 1)), some (vi (((w : Int) / 3) - 1))], []) (MS I J cc ss) _
          refine ev_n (fr' := (94, [some (vr 135), w1, some (vi 0), some (vi (m : Int)), some (vi (k : Int)), some (vi (x : Int)), some (vi (y : Int)), some (vi ((w : Int) + 1)), some (vi (((w : Int) % 3) - 1)), some (vi (((w : Int) / 3) - 1))], [])) (S' := MS I J cc ss) 1 rfl ?_
          exact li_way0 X _ _ cc ss I0 w1 hn32 M1 m1 I1 k y x ins hy hx (w + 1) _ _ (by omega) hW hD hF hMR hWL hMG hMyx (hNB.skip (by omega) (by omega) g5) hs1 hs2 hs3 hs4 K
termination_by 9 - w
decreasing_by all_goals omega
theorem lp_meet0 (X : AX) (I J : Nat → Nat → Int) (cc ss : Nat) {D M0 : B2} {n sy sx : Nat} (I0 : F2) (w1 : Option AV) (hn32 : n ≤ 32) (hs : frO D M0 n false sy sx = true) {M : B2} {m : Nat} (k : Nat) (v5 v6 v7 v8 v9 : Option AV) (hkm : k ≤ m) (hW : I 135 17 = (n : Int)) (hD : DM I D) (hF : onlyG I0 I) (hMR : MR I (fun a b => M0 a b || M a b)) (hWL : WL I M n m) (hMG : MG (frO D M0 n false) M false sy sx) (hC : MC I (frO D M0 n false) M false n k) (hI : MI I M n k (I 135 20)) : Ev X k_X9_meets (24, [some (vr 135), w1, some (vi 0), some (vi (m : Int)), some (vi (k : Int)), v5, v6, v7, v8, v9], []) (MS I J cc ss) (PV cc ss none (fun I' J' => J' = J ∧ onlyG I0 I' ∧ ∃ G, isGrp (frO D M0 n false) false sy sx G ∧ MR I' (fun a b => M0 a b || G a b) ∧ MZ G n (I' 135 20))) := by
  have hle := hWL.le
  refine ev_n (fr' := (27, [some (vr 135), w1, some (vi 0), some (vi (m : Int)), some (vi (k : Int)), v5, v6, v7, v8, v9], [vi (m : Int), vi (k : Int)])) (S' := MS I J cc ss) 2 rfl ?_
  refine ev_ic (c := .ge) (off := 172) rfl (by decide) (fun (g1 : (m : Int) ≤ (k : Int)) => ?_) (fun (g1 : ¬ ((m : Int) ≤ (k : Int))) => ?_)
  · show Ev X k_X9_meets (199, [some (vr 135), w1, some (vi 0), some (vi (m : Int)), some (vi (k : Int)), v5, v6, v7, v8, v9], []) (MS I J cc ss) _
    refine ev_r rfl rfl rfl ?_
    have e9 : k = m := by omega
    rw [e9] at hC hI
    have hnn : ∀ y x, M y x = true → y < n ∧ x < n := fun y x q => by
      have := frO_iff.mp (Rch.inO hs (hMG.2 y x q)); exact ⟨this.1, this.2.1⟩
    refine ⟨_, _, rfl, rfl, rfl, hF, M, ⟨hMG.1, hMG.2, fun y x y' x' h1 h2 h3 => ?_⟩, hMR, ?_⟩
    · obtain ⟨i, q1, q2⟩ := hWL.2.1 y x h1
      exact hC i q1 y x (hnn y x h1).1 (hnn y x h1).2 q2 y' x' h2 h3
    · rcases hI with ⟨q1, q2⟩ | ⟨q1, q2⟩
      · refine Or.inl ⟨q1, fun y x h1 => ?_⟩
        obtain ⟨i, q3, q4⟩ := hWL.2.1 y x h1
        exact q2 i q3 y x (hnn y x h1).1 (hnn y x h1).2 q4
      · exact Or.inr ⟨q1, q2⟩
  · show Ev X k_X9_meets (30, [some (vr 135), w1, some (vi 0), some (vi (m : Int)), some (vi (k : Int)), v5, v6, v7, v8, v9], []) (MS I J cc ss) _
    obtain ⟨y, x, hy, hx, hk, hM⟩ := hWL.1 k (by omega)
    refine ev_n (fr' := (36, [some (vr 135), w1, some (vi 0), some (vi (m : Int)), some (vi (k : Int)), v5, v6, v7, v8, v9], [vi (k : Int), vr 143])) (S' := MS I J cc ss) 3 rfl ?_
    refine ev_iaN (j := k) (z := 32 * (y : Int) + (x : Int)) rfl rfl (by omega) (by omega) (hk) ?_
    show Ev X k_X9_meets (37, [some (vr 135), w1, some (vi 0), some (vi (m : Int)), some (vi (k : Int)), v5, v6, v7, v8, v9], [vi (32 * (y : Int) + (x : Int))]) (MS I J cc ss) _
    refine ev_n (fr' := (40, [some (vr 135), w1, some (vi 0), some (vi (m : Int)), some (vi (k : Int)), v5, v6, v7, v8, v9], [vi (opI fRem (32 * (y : Int) + (x : Int)) 32)])) (S' := MS I J cc ss) 2 rfl ?_
    refine ev_eqi (show opI fRem (32 * (y : Int) + (x : Int)) 32 = (x : Int) from (rem_I (by omega) (by omega)).trans (by omega)) ?_
    show Ev X k_X9_meets (40, [some (vr 135), w1, some (vi 0), some (vi (m : Int)), some (vi (k : Int)), v5, v6, v7, v8, v9], [vi (x : Int)]) (MS I J cc ss) _
    refine ev_n (fr' := (48, [some (vr 135), w1, some (vi 0), some (vi (m : Int)), some (vi (k : Int)), some (vi (x : Int)), v6, v7, v8, v9], [vi (k : Int), vr 143])) (S' := MS I J cc ss) 4 rfl ?_
    refine ev_iaN (j := k) (z := 32 * (y : Int) + (x : Int)) rfl rfl (by omega) (by omega) (hk) ?_
    show Ev X k_X9_meets (49, [some (vr 135), w1, some (vi 0), some (vi (m : Int)), some (vi (k : Int)), some (vi (x : Int)), v6, v7, v8, v9], [vi (32 * (y : Int) + (x : Int))]) (MS I J cc ss) _
    refine ev_n (fr' := (52, [some (vr 135), w1, some (vi 0), some (vi (m : Int)), some (vi (k : Int)), some (vi (x : Int)), v6, v7, v8, v9], [vi (opI (· / ·) (32 * (y : Int) + (x : Int)) 32)])) (S' := MS I J cc ss) 2 rfl ?_
    refine ev_eqi (show opI (· / ·) (32 * (y : Int) + (x : Int)) 32 = (y : Int) from (div_lit (by omega) (by omega)).trans (by omega)) ?_
    show Ev X k_X9_meets (52, [some (vr 135), w1, some (vi 0), some (vi (m : Int)), some (vi (k : Int)), some (vi (x : Int)), v6, v7, v8, v9], [vi (y : Int)]) (MS I J cc ss) _
    refine ev_n (fr' := (56, [some (vr 135), w1, some (vi 0), some (vi (m : Int)), some (vi (k : Int)), some (vi (x : Int)), some (vi (y : Int)), v7, v8, v9], [vi (x : Int)])) (S' := MS I J cc ss) 2 rfl ?_
    refine ev_if (c := .eq) (off := 30) rfl (by decide) (fun (g2 : (x : Int) = 0) => ?_) (fun (g2 : ¬ ((x : Int) = 0)) => ?_)
    · show Ev X k_X9_meets (86, [some (vr 135), w1, some (vi 0), some (vi (m : Int)), some (vi (k : Int)), some (vi (x : Int)), some (vi (y : Int)), v7, v8, v9], []) (MS I J cc ss) _
      refine ev_n (fr' := (88, [some (vr 135), w1, some (vi 0), some (vi (m : Int)), some (vi (k : Int)), some (vi (x : Int)), some (vi (y : Int)), v7, v8, v9], [vi 0, vr 135])) (S' := MS I J cc ss) 2 rfl ?_
      refine ev_n (fr' := (91, [some (vr 135), w1, some (vi 0), some (vi (m : Int)), some (vi (k : Int)), some (vi (x : Int)), some (vi (y : Int)), v7, v8, v9], [])) (S' := MS (up2 I 135 20 0) J cc ss) 1 rfl ?_
      refine ev_n (fr' := (94, [some (vr 135), w1, some (vi 0), some (vi (m : Int)), some (vi (k : Int)), some (vi (x : Int)), some (vi (y : Int)), some (vi 0), v8, v9], [])) (S' := MS (up2 I 135 20 0) J cc ss) 2 rfl ?_
      refine li_way0 X _ _ cc ss I0 w1 hn32 M m (up2 I 135 20 0) k y x (up2 I 135 20 0 135 20) hy hx 0 _ _ (by omega) (by rw [up2_ne2 _ _ _ _ (by decide)]; exact hW) (DM.cell (up2_row _ _ _ _ (by decide)) hD) hF.upF (MR.cell (up2_row _ _ _ _ (by decide)) hMR) (WL.cell (fun i _ => by rw [up2_row _ _ _ _ (by decide)]) hWL) hMG hM (fun _ _ _ q => absurd q (by omega)) (fun _ _ q => q) (fun _ _ => rfl) (Nat.le_refl _) rfl (fun I1 M' m' v8 v9 hW hD hF hMR hWL hMG hNB hs1 hs2 hs3 hs4 => ?_)
      have hs2 : ∀ i, i < m → I1 143 i = I 143 i := fun i hi => (hs2 i hi).trans (by rw [up2_row _ _ _ _ (by decide)])
      have hI2 : MI I1 M' n (k + 1) (I1 135 20) := Or.inr ⟨hs4.trans (up2_same _ _ _ _), y, x, hs1 _ _ hM, by unfold edgB; omega⟩
      have hC2 : MC I1 (frO D M0 n false) M' false n (k + 1) := fun i hi a b ha hb he => by
        rw [hs2 i (by omega)] at he
        rcases Nat.lt_succ_iff_lt_or_eq.mp hi with q | q
        · exact fun c d h1 h2 => hs1 _ _ (hC i q a b ha hb he c d h1 h2)
        · subst q; rw [hk] at he; rw [show a = y by omega, show b = x by omega]; exact hNB.all
      show Ev X k_X9_meets (193, [some (vr 135), w1, some (vi 0), some (vi (m' : Int)), some (vi (k : Int)), some (vi (x : Int)), some (vi (y : Int)), some (vi 9), v8, v9], []) (MS I1 J cc ss) _
      refine ev_inc (z := (k : Int) + 1) rfl rfl (by omega) (by omega) (by omega) rfl ?_
      show Ev X k_X9_meets (196, [some (vr 135), w1, some (vi 0), some (vi (m' : Int)), some (vi ((k : Int) + 1)), some (vi (x : Int)), some (vi (y : Int)), some (vi 9), v8, v9], []) (MS I1 J cc ss) _
      refine ev_go (t := 24) rfl (by decide) ?_
      show Ev X k_X9_meets (24, [some (vr 135), w1, some (vi 0), some (vi (m' : Int)), some (vi ((k : Int) + 1)), some (vi (x : Int)), some (vi (y : Int)), some (vi 9), v8, v9], []) (MS I1 J cc ss) _
      exact lp_meet0 X _ _ cc ss I0 w1 hn32 hs (k + 1) _ _ _ _ _ (by omega) hW hD hF hMR hWL hMG hC2 hI2
    · show Ev X k_X9_meets (59, [some (vr 135), w1, some (vi 0), some (vi (m : Int)), some (vi (k : Int)), some (vi (x : Int)), some (vi (y : Int)), v7, v8, v9], []) (MS I J cc ss) _
      refine ev_n (fr' := (61, [some (vr 135), w1, some (vi 0), some (vi (m : Int)), some (vi (k : Int)), some (vi (x : Int)), some (vi (y : Int)), v7, v8, v9], [vi (y : Int)])) (S' := MS I J cc ss) 1 rfl ?_
      refine ev_if (c := .eq) (off := 25) rfl (by decide) (fun (g3 : (y : Int) = 0) => ?_) (fun (g3 : ¬ ((y : Int) = 0)) => ?_)
      · show Ev X k_X9_meets (86, [some (vr 135), w1, some (vi 0), some (vi (m : Int)), some (vi (k : Int)), some (vi (x : Int)), some (vi (y : Int)), v7, v8, v9], []) (MS I J cc ss) _
        refine ev_n (fr' := (88, [some (vr 135), w1, some (vi 0), some (vi (m : Int)), some (vi (k : Int)), some (vi (x : Int)), some (vi (y : Int)), v7, v8, v9], [vi 0, vr 135])) (S' := MS I J cc ss) 2 rfl ?_
        refine ev_n (fr' := (91, [some (vr 135), w1, some (vi 0), some (vi (m : Int)), some (vi (k : Int)), some (vi (x : Int)), some (vi (y : Int)), v7, v8, v9], [])) (S' := MS (up2 I 135 20 0) J cc ss) 1 rfl ?_
        refine ev_n (fr' := (94, [some (vr 135), w1, some (vi 0), some (vi (m : Int)), some (vi (k : Int)), some (vi (x : Int)), some (vi (y : Int)), some (vi 0), v8, v9], [])) (S' := MS (up2 I 135 20 0) J cc ss) 2 rfl ?_
        refine li_way0 X _ _ cc ss I0 w1 hn32 M m (up2 I 135 20 0) k y x (up2 I 135 20 0 135 20) hy hx 0 _ _ (by omega) (by rw [up2_ne2 _ _ _ _ (by decide)]; exact hW) (DM.cell (up2_row _ _ _ _ (by decide)) hD) hF.upF (MR.cell (up2_row _ _ _ _ (by decide)) hMR) (WL.cell (fun i _ => by rw [up2_row _ _ _ _ (by decide)]) hWL) hMG hM (fun _ _ _ q => absurd q (by omega)) (fun _ _ q => q) (fun _ _ => rfl) (Nat.le_refl _) rfl (fun I1 M' m' v8 v9 hW hD hF hMR hWL hMG hNB hs1 hs2 hs3 hs4 => ?_)
        have hs2 : ∀ i, i < m → I1 143 i = I 143 i := fun i hi => (hs2 i hi).trans (by rw [up2_row _ _ _ _ (by decide)])
        have hI2 : MI I1 M' n (k + 1) (I1 135 20) := Or.inr ⟨hs4.trans (up2_same _ _ _ _), y, x, hs1 _ _ hM, by unfold edgB; omega⟩
        have hC2 : MC I1 (frO D M0 n false) M' false n (k + 1) := fun i hi a b ha hb he => by
          rw [hs2 i (by omega)] at he
          rcases Nat.lt_succ_iff_lt_or_eq.mp hi with q | q
          · exact fun c d h1 h2 => hs1 _ _ (hC i q a b ha hb he c d h1 h2)
          · subst q; rw [hk] at he; rw [show a = y by omega, show b = x by omega]; exact hNB.all
        show Ev X k_X9_meets (193, [some (vr 135), w1, some (vi 0), some (vi (m' : Int)), some (vi (k : Int)), some (vi (x : Int)), some (vi (y : Int)), some (vi 9), v8, v9], []) (MS I1 J cc ss) _
        refine ev_inc (z := (k : Int) + 1) rfl rfl (by omega) (by omega) (by omega) rfl ?_
        show Ev X k_X9_meets (196, [some (vr 135), w1, some (vi 0), some (vi (m' : Int)), some (vi ((k : Int) + 1)), some (vi (x : Int)), some (vi (y : Int)), some (vi 9), v8, v9], []) (MS I1 J cc ss) _
        refine ev_go (t := 24) rfl (by decide) ?_
        show Ev X k_X9_meets (24, [some (vr 135), w1, some (vi 0), some (vi (m' : Int)), some (vi ((k : Int) + 1)), some (vi (x : Int)), some (vi (y : Int)), some (vi 9), v8, v9], []) (MS I1 J cc ss) _
        exact lp_meet0 X _ _ cc ss I0 w1 hn32 hs (k + 1) _ _ _ _ _ (by omega) hW hD hF hMR hWL hMG hC2 hI2
      · show Ev X k_X9_meets (64, [some (vr 135), w1, some (vi 0), some (vi (m : Int)), some (vi (k : Int)), some (vi (x : Int)), some (vi (y : Int)), v7, v8, v9], []) (MS I J cc ss) _
        refine ev_n (fr' := (70, [some (vr 135), w1, some (vi 0), some (vi (m : Int)), some (vi (k : Int)), some (vi (x : Int)), some (vi (y : Int)), v7, v8, v9], [vi (I 135 17), vi (x : Int)])) (S' := MS I J cc ss) 3 rfl ?_
        refine ev_eqi (hW) ?_
        show Ev X k_X9_meets (70, [some (vr 135), w1, some (vi 0), some (vi (m : Int)), some (vi (k : Int)), some (vi (x : Int)), some (vi (y : Int)), v7, v8, v9], [vi (n : Int), vi (x : Int)]) (MS I J cc ss) _
        refine ev_n (fr' := (71, [some (vr 135), w1, some (vi 0), some (vi (m : Int)), some (vi (k : Int)), some (vi (x : Int)), some (vi (y : Int)), v7, v8, v9], [vi 1, vi (n : Int), vi (x : Int)])) (S' := MS I J cc ss) 1 rfl ?_
        refine ev_sub (z := (n : Int) - 1) rfl (by omega) (by omega) (by omega) ?_
        show Ev X k_X9_meets (72, [some (vr 135), w1, some (vi 0), some (vi (m : Int)), some (vi (k : Int)), some (vi (x : Int)), some (vi (y : Int)), v7, v8, v9], [vi ((n : Int) - 1), vi (x : Int)]) (MS I J cc ss) _
        refine ev_ic (c := .eq) (off := 14) rfl (by decide) (fun (g4 : (x : Int) = (n : Int) - 1) => ?_) (fun (g4 : ¬ ((x : Int) = (n : Int) - 1)) => ?_)
        · show Ev X k_X9_meets (86, [some (vr 135), w1, some (vi 0), some (vi (m : Int)), some (vi (k : Int)), some (vi (x : Int)), some (vi (y : Int)), v7, v8, v9], []) (MS I J cc ss) _
          refine ev_n (fr' := (88, [some (vr 135), w1, some (vi 0), some (vi (m : Int)), some (vi (k : Int)), some (vi (x : Int)), some (vi (y : Int)), v7, v8, v9], [vi 0, vr 135])) (S' := MS I J cc ss) 2 rfl ?_
          refine ev_n (fr' := (91, [some (vr 135), w1, some (vi 0), some (vi (m : Int)), some (vi (k : Int)), some (vi (x : Int)), some (vi (y : Int)), v7, v8, v9], [])) (S' := MS (up2 I 135 20 0) J cc ss) 1 rfl ?_
          refine ev_n (fr' := (94, [some (vr 135), w1, some (vi 0), some (vi (m : Int)), some (vi (k : Int)), some (vi (x : Int)), some (vi (y : Int)), some (vi 0), v8, v9], [])) (S' := MS (up2 I 135 20 0) J cc ss) 2 rfl ?_
          refine li_way0 X _ _ cc ss I0 w1 hn32 M m (up2 I 135 20 0) k y x (up2 I 135 20 0 135 20) hy hx 0 _ _ (by omega) (by rw [up2_ne2 _ _ _ _ (by decide)]; exact hW) (DM.cell (up2_row _ _ _ _ (by decide)) hD) hF.upF (MR.cell (up2_row _ _ _ _ (by decide)) hMR) (WL.cell (fun i _ => by rw [up2_row _ _ _ _ (by decide)]) hWL) hMG hM (fun _ _ _ q => absurd q (by omega)) (fun _ _ q => q) (fun _ _ => rfl) (Nat.le_refl _) rfl (fun I1 M' m' v8 v9 hW hD hF hMR hWL hMG hNB hs1 hs2 hs3 hs4 => ?_)
          have hs2 : ∀ i, i < m → I1 143 i = I 143 i := fun i hi => (hs2 i hi).trans (by rw [up2_row _ _ _ _ (by decide)])
          have hI2 : MI I1 M' n (k + 1) (I1 135 20) := Or.inr ⟨hs4.trans (up2_same _ _ _ _), y, x, hs1 _ _ hM, by unfold edgB; omega⟩
          have hC2 : MC I1 (frO D M0 n false) M' false n (k + 1) := fun i hi a b ha hb he => by
            rw [hs2 i (by omega)] at he
            rcases Nat.lt_succ_iff_lt_or_eq.mp hi with q | q
            · exact fun c d h1 h2 => hs1 _ _ (hC i q a b ha hb he c d h1 h2)
            · subst q; rw [hk] at he; rw [show a = y by omega, show b = x by omega]; exact hNB.all
          show Ev X k_X9_meets (193, [some (vr 135), w1, some (vi 0), some (vi (m' : Int)), some (vi (k : Int)), some (vi (x : Int)), some (vi (y : Int)), some (vi 9), v8, v9], []) (MS I1 J cc ss) _
          refine ev_inc (z := (k : Int) + 1) rfl rfl (by omega) (by omega) (by omega) rfl ?_
          show Ev X k_X9_meets (196, [some (vr 135), w1, some (vi 0), some (vi (m' : Int)), some (vi ((k : Int) + 1)), some (vi (x : Int)), some (vi (y : Int)), some (vi 9), v8, v9], []) (MS I1 J cc ss) _
          refine ev_go (t := 24) rfl (by decide) ?_
          show Ev X k_X9_meets (24, [some (vr 135), w1, some (vi 0), some (vi (m' : Int)), some (vi ((k : Int) + 1)), some (vi (x : Int)), some (vi (y : Int)), some (vi 9), v8, v9], []) (MS I1 J cc ss) _
          exact lp_meet0 X _ _ cc ss I0 w1 hn32 hs (k + 1) _ _ _ _ _ (by omega) hW hD hF hMR hWL hMG hC2 hI2
        · show Ev X k_X9_meets (75, [some (vr 135), w1, some (vi 0), some (vi (m : Int)), some (vi (k : Int)), some (vi (x : Int)), some (vi (y : Int)), v7, v8, v9], []) (MS I J cc ss) _
          refine ev_n (fr' := (81, [some (vr 135), w1, some (vi 0), some (vi (m : Int)), some (vi (k : Int)), some (vi (x : Int)), some (vi (y : Int)), v7, v8, v9], [vi (I 135 17), vi (y : Int)])) (S' := MS I J cc ss) 3 rfl ?_
          refine ev_eqi (hW) ?_
          show Ev X k_X9_meets (81, [some (vr 135), w1, some (vi 0), some (vi (m : Int)), some (vi (k : Int)), some (vi (x : Int)), some (vi (y : Int)), v7, v8, v9], [vi (n : Int), vi (y : Int)]) (MS I J cc ss) _
          refine ev_n (fr' := (82, [some (vr 135), w1, some (vi 0), some (vi (m : Int)), some (vi (k : Int)), some (vi (x : Int)), some (vi (y : Int)), v7, v8, v9], [vi 1, vi (n : Int), vi (y : Int)])) (S' := MS I J cc ss) 1 rfl ?_
          refine ev_sub (z := (n : Int) - 1) rfl (by omega) (by omega) (by omega) ?_
          show Ev X k_X9_meets (83, [some (vr 135), w1, some (vi 0), some (vi (m : Int)), some (vi (k : Int)), some (vi (x : Int)), some (vi (y : Int)), v7, v8, v9], [vi ((n : Int) - 1), vi (y : Int)]) (MS I J cc ss) _
          refine ev_ic (c := .ne) (off := 8) rfl (by decide) (fun (g5 : (y : Int) ≠ (n : Int) - 1) => ?_) (fun (g5 : ¬ ((y : Int) ≠ (n : Int) - 1)) => ?_)
          · show Ev X k_X9_meets (91, [some (vr 135), w1, some (vi 0), some (vi (m : Int)), some (vi (k : Int)), some (vi (x : Int)), some (vi (y : Int)), v7, v8, v9], []) (MS I J cc ss) _
            refine ev_n (fr' := (94, [some (vr 135), w1, some (vi 0), some (vi (m : Int)), some (vi (k : Int)), some (vi (x : Int)), some (vi (y : Int)), some (vi 0), v8, v9], [])) (S' := MS I J cc ss) 2 rfl ?_
            refine li_way0 X _ _ cc ss I0 w1 hn32 M m (I) k y x (I 135 20) hy hx 0 _ _ (by omega) hW hD hF hMR hWL hMG hM (fun _ _ _ q => absurd q (by omega)) (fun _ _ q => q) (fun _ _ => rfl) (Nat.le_refl _) rfl (fun I1 M' m' v8 v9 hW hD hF hMR hWL hMG hNB hs1 hs2 hs3 hs4 => ?_)
            have hI2 : MI I1 M' n (k + 1) (I1 135 20) := by
              rw [hs4]
              rcases hI with ⟨q1, q2⟩ | ⟨q1, a, b, q2, q3⟩
              · refine Or.inl ⟨q1, fun i hi a b ha hb he => ?_⟩
                rw [hs2 i (by omega)] at he
                rcases Nat.lt_succ_iff_lt_or_eq.mp hi with q | q
                · exact q2 i q a b ha hb he
                · subst q; rw [hk] at he; unfold edgB; omega
              · exact Or.inr ⟨q1, a, b, hs1 _ _ q2, q3⟩
            have hC2 : MC I1 (frO D M0 n false) M' false n (k + 1) := fun i hi a b ha hb he => by
              rw [hs2 i (by omega)] at he
              rcases Nat.lt_succ_iff_lt_or_eq.mp hi with q | q
              · exact fun c d h1 h2 => hs1 _ _ (hC i q a b ha hb he c d h1 h2)
              · subst q; rw [hk] at he; rw [show a = y by omega, show b = x by omega]; exact hNB.all
            show Ev X k_X9_meets (193, [some (vr 135), w1, some (vi 0), some (vi (m' : Int)), some (vi (k : Int)), some (vi (x : Int)), some (vi (y : Int)), some (vi 9), v8, v9], []) (MS I1 J cc ss) _
            refine ev_inc (z := (k : Int) + 1) rfl rfl (by omega) (by omega) (by omega) rfl ?_
            show Ev X k_X9_meets (196, [some (vr 135), w1, some (vi 0), some (vi (m' : Int)), some (vi ((k : Int) + 1)), some (vi (x : Int)), some (vi (y : Int)), some (vi 9), v8, v9], []) (MS I1 J cc ss) _
            refine ev_go (t := 24) rfl (by decide) ?_
            show Ev X k_X9_meets (24, [some (vr 135), w1, some (vi 0), some (vi (m' : Int)), some (vi ((k : Int) + 1)), some (vi (x : Int)), some (vi (y : Int)), some (vi 9), v8, v9], []) (MS I1 J cc ss) _
            exact lp_meet0 X _ _ cc ss I0 w1 hn32 hs (k + 1) _ _ _ _ _ (by omega) hW hD hF hMR hWL hMG hC2 hI2
          · show Ev X k_X9_meets (86, [some (vr 135), w1, some (vi 0), some (vi (m : Int)), some (vi (k : Int)), some (vi (x : Int)), some (vi (y : Int)), v7, v8, v9], []) (MS I J cc ss) _
            refine ev_n (fr' := (88, [some (vr 135), w1, some (vi 0), some (vi (m : Int)), some (vi (k : Int)), some (vi (x : Int)), some (vi (y : Int)), v7, v8, v9], [vi 0, vr 135])) (S' := MS I J cc ss) 2 rfl ?_
            refine ev_n (fr' := (91, [some (vr 135), w1, some (vi 0), some (vi (m : Int)), some (vi (k : Int)), some (vi (x : Int)), some (vi (y : Int)), v7, v8, v9], [])) (S' := MS (up2 I 135 20 0) J cc ss) 1 rfl ?_
            refine ev_n (fr' := (94, [some (vr 135), w1, some (vi 0), some (vi (m : Int)), some (vi (k : Int)), some (vi (x : Int)), some (vi (y : Int)), some (vi 0), v8, v9], [])) (S' := MS (up2 I 135 20 0) J cc ss) 2 rfl ?_
            refine li_way0 X _ _ cc ss I0 w1 hn32 M m (up2 I 135 20 0) k y x (up2 I 135 20 0 135 20) hy hx 0 _ _ (by omega) (by rw [up2_ne2 _ _ _ _ (by decide)]; exact hW) (DM.cell (up2_row _ _ _ _ (by decide)) hD) hF.upF (MR.cell (up2_row _ _ _ _ (by decide)) hMR) (WL.cell (fun i _ => by rw [up2_row _ _ _ _ (by decide)]) hWL) hMG hM (fun _ _ _ q => absurd q (by omega)) (fun _ _ q => q) (fun _ _ => rfl) (Nat.le_refl _) rfl (fun I1 M' m' v8 v9 hW hD hF hMR hWL hMG hNB hs1 hs2 hs3 hs4 => ?_)
            have hs2 : ∀ i, i < m → I1 143 i = I 143 i := fun i hi => (hs2 i hi).trans (by rw [up2_row _ _ _ _ (by decide)])
            have hI2 : MI I1 M' n (k + 1) (I1 135 20) := Or.inr ⟨hs4.trans (up2_same _ _ _ _), y, x, hs1 _ _ hM, by unfold edgB; omega⟩
            have hC2 : MC I1 (frO D M0 n false) M' false n (k + 1) := fun i hi a b ha hb he => by
              rw [hs2 i (by omega)] at he
              rcases Nat.lt_succ_iff_lt_or_eq.mp hi with q | q
              · exact fun c d h1 h2 => hs1 _ _ (hC i q a b ha hb he c d h1 h2)
              · subst q; rw [hk] at he; rw [show a = y by omega, show b = x by omega]; exact hNB.all
            show Ev X k_X9_meets (193, [some (vr 135), w1, some (vi 0), some (vi (m' : Int)), some (vi (k : Int)), some (vi (x : Int)), some (vi (y : Int)), some (vi 9), v8, v9], []) (MS I1 J cc ss) _
            refine ev_inc (z := (k : Int) + 1) rfl rfl (by omega) (by omega) (by omega) rfl ?_
            show Ev X k_X9_meets (196, [some (vr 135), w1, some (vi 0), some (vi (m' : Int)), some (vi ((k : Int) + 1)), some (vi (x : Int)), some (vi (y : Int)), some (vi 9), v8, v9], []) (MS I1 J cc ss) _
            refine ev_go (t := 24) rfl (by decide) ?_
            show Ev X k_X9_meets (24, [some (vr 135), w1, some (vi 0), some (vi (m' : Int)), some (vi ((k : Int) + 1)), some (vi (x : Int)), some (vi (y : Int)), some (vi 9), v8, v9], []) (MS I1 J cc ss) _
            exact lp_meet0 X _ _ cc ss I0 w1 hn32 hs (k + 1) _ _ _ _ _ (by omega) hW hD hF hMR hWL hMG hC2 hI2
termination_by 1025 - k
decreasing_by all_goals omega
theorem sp_meets0 (X : AX) (I J : Nat → Nat → Int) (cc ss : Nat) {D M0 : B2} {n : Nat} (sy sx : Nat) (hn32 : n ≤ 32) (hs : frO D M0 n false sy sx = true) (hW : I 135 17 = (n : Int)) (hD : DM I D) (hMR : MR I M0) : Ev X k_X9_meets (0, [some (vr 135), some (vi (32 * (sy : Int) + (sx : Int))), some (vi 0), none, none, none, none, none, none, none], []) (MS I J cc ss) (PV cc ss none (fun I' J' => J' = J ∧ onlyG I I' ∧ ∃ G, isGrp (frO D M0 n false) false sy sx G ∧ MR I' (fun a b => M0 a b || G a b) ∧ MZ G n (I' 135 20))) := by
  refine ev_n (fr' := (8, [some (vr 135), some (vi (32 * (sy : Int) + (sx : Int))), some (vi 0), some (vi 1), none, none, none, none, none, none], [vi (32 * (sy : Int) + (sx : Int)), vi 0, vr 143])) (S' := MS I J cc ss) 6 rfl ?_
  refine ev_iasN (j := 0) rfl rfl (by omega) (by omega) ?_
  show Ev X k_X9_meets (9, [some (vr 135), some (vi (32 * (sy : Int) + (sx : Int))), some (vi 0), some (vi 1), none, none, none, none, none, none], []) (MS (up2 I 143 0 (32 * (sy : Int) + (sx : Int))) J cc ss) _
  refine ev_n (fr' := (15, [some (vr 135), some (vi (32 * (sy : Int) + (sx : Int))), some (vi 0), some (vi 1), none, none, none, none, none, none], [vi 1, vi (32 * (sy : Int) + (sx : Int)), vr 142])) (S' := MS (up2 I 143 0 (32 * (sy : Int) + (sx : Int))) J cc ss) 4 rfl ?_
  refine ev_basN (j := 32 * sy + sx) rfl rfl (by have := frO_iff.mp hs; omega) (by have := frO_iff.mp hs; omega) (Or.inr rfl) ?_
  show Ev X k_X9_meets (16, [some (vr 135), some (vi (32 * (sy : Int) + (sx : Int))), some (vi 0), some (vi 1), none, none, none, none, none, none], []) (MS (up2 (up2 I 143 0 (32 * (sy : Int) + (sx : Int))) 142 (32 * sy + sx) 1) J cc ss) _
  refine ev_n (fr' := (18, [some (vr 135), some (vi (32 * (sy : Int) + (sx : Int))), some (vi 0), some (vi 1), none, none, none, none, none, none], [vi 1, vr 135])) (S' := MS (up2 (up2 I 143 0 (32 * (sy : Int) + (sx : Int))) 142 (32 * sy + sx) 1) J cc ss) 2 rfl ?_
  refine ev_n (fr' := (21, [some (vr 135), some (vi (32 * (sy : Int) + (sx : Int))), some (vi 0), some (vi 1), none, none, none, none, none, none], [])) (S' := MS (up2 (up2 (up2 I 143 0 (32 * (sy : Int) + (sx : Int))) 142 (32 * sy + sx) 1) 135 20 1) J cc ss) 1 rfl ?_
  refine ev_n (fr' := (24, [some (vr 135), some (vi (32 * (sy : Int) + (sx : Int))), some (vi 0), some (vi 1), some (vi 0), none, none, none, none, none], [])) (S' := MS (up2 (up2 (up2 I 143 0 (32 * (sy : Int) + (sx : Int))) 142 (32 * sy + sx) 1) 135 20 1) J cc ss) 2 rfl ?_
  have hsr := frO_iff.mp hs
  have hW0 : WL I (fun _ _ => false) n 0 := ⟨fun i q => absurd q (by omega), fun _ _ q => (by cases q), cntB_none.symm⟩
  refine lp_meet0 X _ _ cc ss I _ hn32 hs (M := fun a b => (fun _ _ => false) a b || decide (a = sy ∧ b = sx)) (m := 1) 0 _ _ _ _ _ (by omega) ?_ ?_ ?_ ?_ ?_ ?_ (fun i q => absurd q (by omega)) (Or.inl ⟨up2_same _ _ _ _, fun i q => absurd q (by omega)⟩)
  · rw [up2_ne2 _ _ _ _ (by decide), up2_row _ _ _ _ (by decide), up2_row _ _ _ _ (by decide)]; exact hW
  · exact DM.cell (by rw [up2_row _ _ _ _ (by decide), up2_row _ _ _ _ (by decide), up2_row _ _ _ _ (by decide)]) hD
  · exact (((onlyG.refl I).upA (Or.inr rfl)).upA (Or.inl rfl)).upF
  · exact MR.cell (up2_row _ _ _ _ (by decide)) (MR.two (M := fun _ _ => false) (m := 0) (hMR.congr (fun y x => (Bool.or_false _).symm)) (by omega) (by omega))
  · exact WL.cell (fun i _ => by rw [up2_row _ _ _ _ (by decide), up2_row _ _ _ _ (by decide)]) (hW0.add hn32 hsr.1 hsr.2.1 rfl)
  · refine ⟨by show (false || decide (sy = sy ∧ sx = sx)) = true; rw [decide_eq_true ⟨rfl, rfl⟩]; rfl, fun y x q => ?_⟩
    have q : (false || decide (y = sy ∧ x = sx)) = true := q
    rw [Bool.false_or, decide_eq_true_eq] at q
    rw [q.1, q.2]; exact Rch.seed
