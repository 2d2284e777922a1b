/-! MEASURES, class side (printed by gen/g40.py) -/
theorem sumF_congr {f f' : Nat → Int} : ∀ (n : Nat), (∀ i, i < n → f i = f' i) → sumF f n = sumF f' n
  | 0, _ => rfl
  | n + 1, h => by simp only [sumF]; rw [sumF_congr n (fun i hi => h i (by omega)), h n (by omega)]
theorem sumF_add (f : Nat → Int) (a : Nat) : ∀ b : Nat, sumF f (a + b) = sumF f a + sumF (fun i => f (a + i)) b
  | 0 => by simp [sumF]
  | b + 1 => by show sumF f (a + b) + f (a + b) = _; rw [sumF_add f a b]; simp only [sumF]; omega
theorem sumF_blk (f : Nat → Int) : ∀ n : Nat, sumF f (32 * n) = sumF (fun y => sumF (fun x => f (32 * y + x)) 32) n
  | 0 => rfl
  | n + 1 => by rw [show 32 * (n + 1) = 32 * n + 32 by omega, sumF_add, sumF_blk f n]; rfl
def cntB (D : Nat → Nat → Bool) : Int := sumF (fun y => sumF (fun x => if D y x then 1 else 0) 32) 32
theorem cntB_rng (D : Nat → Nat → Bool) : 0 ≤ cntB D ∧ cntB D ≤ 1024 := by
  have h := sumF_rng (f := fun y => sumF (fun x => if D y x then 1 else 0) 32) (b := 32) 32 (fun y _ => by
    have h2 := sumF_rng (f := fun x => if D y x then 1 else 0) (b := 1) 32 (fun x _ => by by_cases h : D y x <;> simp [h])
    exact ⟨h2.1, Int.le_trans h2.2 (by decide)⟩)
  unfold cntB; omega
def wF (D : Nat → Nat → Bool) (P : Int) : Int := 1000 * cntB D / (P * P)
def firstF (p : Nat → Bool) : Int := fnd (fun c => if p c then 1 else 0) 1 32 0
def lstN (p : Nat → Bool) : Nat → Int
  | 0 => -1
  | n + 1 => if p n then (n : Int) else lstN p n
def lastF (p : Nat → Bool) : Int := lstN p 32
def colB (D : Nat → Nat → Bool) (c : Nat) : Bool := orN (fun y => D y c) 32
def rowB (D : Nat → Nat → Bool) (r : Nat) : Bool := orN (fun x => D r x) 32
theorem orN_true {f : Nat → Bool} : ∀ n : Nat, orN f n = true ↔ ∃ i, i < n ∧ f i = true
  | 0 => by simp [orN]
  | n + 1 => by
    simp only [orN, Bool.or_eq_true, orN_true n]
    constructor
    · rintro (⟨i, h1, h2⟩ | h)
      · exact ⟨i, by omega, h2⟩
      · exact ⟨n, by omega, h⟩
    · rintro ⟨i, h1, h2⟩
      rcases Nat.lt_succ_iff_lt_or_eq.mp h1 with h | h
      · exact Or.inl ⟨i, h, h2⟩
      · exact Or.inr (h ▸ h2)
theorem orN_false {f : Nat → Bool} {n : Nat} : orN f n = false ↔ ∀ i, i < n → f i = false := by
  rw [← Bool.not_eq_true, orN_true]
  constructor
  · intro h i hi; rw [← Bool.not_eq_true]; exact fun q => h ⟨i, hi, q⟩
  · rintro h ⟨i, hi, q⟩; rw [h i hi] at q; cases q
theorem firstF_hit {p : Nat → Bool} {c : Nat} (hc : c < 32) (hp : p c = true) (h : ∀ q, q < c → p q = false) : firstF p = c :=
  fnd_hit (by rw [if_pos hp]) 32 0 (fun q _ hq => by rw [if_neg (by rw [h q hq]; decide)]; decide) (by omega) (by omega)
theorem firstF_miss {p : Nat → Bool} (h : ∀ q, q < 32 → p q = false) : firstF p = -1 :=
  fnd_miss 32 0 (fun q _ hq => by rw [if_neg (by rw [h q (by omega)]; decide)]; decide)
theorem lstN_hit {p : Nat → Bool} {c : Nat} (hp : p c = true) : ∀ n : Nat, c < n → (∀ q, c < q → q < n → p q = false) → lstN p n = c
  | 0, h, _ => absurd h (by omega)
  | n + 1, h, h2 => by
    unfold lstN
    by_cases e : c = n
    · rw [← e, if_pos hp]
    · rw [if_neg (by rw [h2 n (by omega) (by omega)]; decide)]; exact lstN_hit hp n (by omega) (fun q h3 h4 => h2 q h3 (by omega))
theorem lstN_miss {p : Nat → Bool} : ∀ n : Nat, (∀ q, q < n → p q = false) → lstN p n = -1
  | 0, _ => rfl
  | n + 1, h => by
    unfold lstN
    rw [if_neg (by rw [h n (by omega)]; decide)]; exact lstN_miss n (fun q h3 => h q (by omega))
def allN (f : Nat → Bool) (n : Nat) : Bool := !orN (fun i => !f i) n
theorem allN_true {f : Nat → Bool} {n : Nat} : allN f n = true ↔ ∀ i, i < n → f i = true := by
  unfold allN; rw [Bool.not_eq_true', orN_false]; simp only [Bool.not_eq_false']
def mirB (D : Nat → Nat → Bool) (n : Nat) (down : Bool) : Bool := allN (fun y => allN (fun x => D y x == (if down then D (n - 1 - y) x else D y (n - 1 - x))) n) n
theorem mir_true {D : Nat → Nat → Bool} {n : Nat} {down : Bool} : mirB D n down = true ↔ ∀ y x, y < n → x < n → D y x = (if down then D (n - 1 - y) x else D y (n - 1 - x)) := by
  unfold mirB; rw [allN_true]
  constructor
  · intro h y x hy hx; have := allN_true.mp (h y hy) x hx; exact eq_of_beq this
  · intro h y hy; rw [allN_true]; intro x hx; rw [h y x hy hx]; exact beq_self_eq_true _
theorem row_pop {I : F2} {d : Nat} {P e : Int} {D : Nat → Nat → Bool} (hD : DR I d P e D) {r : Nat} (hr : r < 32) : popF (I (d + 1) r) = sumF (fun x => if D r x then 1 else 0) 32 := by
  unfold popF; exact sumF_congr 32 (fun c hc => by rw [(hD.2.2 r hr).2 c hc])
theorem rem_I {x y : Int} (hx : 0 ≤ x ∧ x ≤ 2147483647) (hy : 0 < y ∧ y ≤ 2147483647) : opI fRem x y = x % y := by
  have e : ∀ z : Int, in32 z → (Int32.ofInt z).toInt = z := fun z hz => by
    have := w32_id hz; unfold w32 at this; exact this
  have h1 := div_I (x := x) (y := y) ⟨by omega, by omega⟩ ⟨by omega, by omega⟩ (by omega)
  unfold opI at h1
  rw [tdiv_pos hy.1 hx.1] at h1
  have h2 := Int.mul_ediv_add_emod x y
  have h3 := emod_pos_lt x hy.1
  have h4 : 0 ≤ x / y * y := Int.mul_nonneg (Int.ediv_nonneg hx.1 (by omega)) (by omega)
  have h5 : x / y * y = y * (x / y) := Int.mul_comm _ _
  unfold opI fRem
  simp only at h1
  rw [Int32.toInt_sub, Int32.toInt_mul, h1, e x ⟨by omega, by omega⟩, e y ⟨by omega, by omega⟩, Int.bmod_eq_of_le (n := x / y * y) (by omega) (by omega), Int.bmod_eq_of_le (by omega) (by omega)]
  omega
section
variable {X : AX} {k pc : Nat} {L : ALs} {r : List AV} {S : AS} {ax : Nat × Nat × Nat} {Q : (Option AV ⊕ Nat) → AS → Prop} {x y z : Int}
theorem ev_div (hcd : cdAt k pc = some (.idiv, 1, ax)) (hx : 0 ≤ x ∧ x ≤ 2147483647) (hy : 0 < y ∧ y ≤ 2147483647) (hz : x / y = z) (he : Ev X k (pc + 1, L, vi z :: r) S Q) : Ev X k (pc, L, vi y :: vi x :: r) S Q := by
  refine ev_p (L' := L) (st' := vi z :: r) (S' := S) hcd ?_ he
  show (if y = 0 then none else some (L, vi (opI (· / ·) x y) :: r, S)) = _
  rw [if_neg (by omega), div_I ⟨by omega, by omega⟩ ⟨by omega, by omega⟩ (by omega), tdiv_pos hy.1 hx.1, hz]
theorem ev_rem (hcd : cdAt k pc = some (.irem, 1, ax)) (hx : 0 ≤ x ∧ x ≤ 2147483647) (hy : 0 < y ∧ y ≤ 2147483647) (hz : x % y = z) (he : Ev X k (pc + 1, L, vi z :: r) S Q) : Ev X k (pc, L, vi y :: vi x :: r) S Q := by
  refine ev_p (L' := L) (st' := vi z :: r) (S' := S) hcd ?_ he
  show (if y = 0 then none else some (L, vi (opI fRem x y) :: r, S)) = _
  rw [if_neg (by omega), rem_I hx hy, hz]
end
theorem sp_bitCount (X : AX) (S : AS) (z : Int) : Ev X k_J6_bitCount_0f7a4 (0, [some (vi z)], []) (S) (fun o T => o = .inl (some (vi (popF z))) ∧ T = S) := by
  refine ev_n (fr' := (9, [some (vi z)], [vi (w32 (z - (opI (· &&& ·) (opI fUsh z 1) 1431655765)))])) (S' := S) 7 rfl ?_
  refine ev_eqi (show (w32 (z - (opI (· &&& ·) (opI fUsh z 1) 1431655765))) = (pop1 z) from rfl) ?_
  show Ev X k_J6_bitCount_0f7a4 (9, [some (vi z)], [vi (pop1 z)]) (S) _
  refine ev_n (fr' := (23, [some (vi (pop1 z))], [vi (w32 ((opI (· &&& ·) (pop1 z) 858993459) + (opI (· &&& ·) (opI fUsh (pop1 z) 2) 858993459)))])) (S' := S) 10 rfl ?_
  refine ev_eqi (show (w32 ((opI (· &&& ·) (pop1 z) 858993459) + (opI (· &&& ·) (opI fUsh (pop1 z) 2) 858993459))) = (pop2 (pop1 z)) from rfl) ?_
  show Ev X k_J6_bitCount_0f7a4 (23, [some (vi (pop1 z))], [vi (pop2 (pop1 z))]) (S) _
  refine ev_n (fr' := (33, [some (vi (pop2 (pop1 z)))], [vi (opI (· &&& ·) (w32 ((pop2 (pop1 z)) + (opI fUsh (pop2 (pop1 z)) 4))) 252645135)])) (S' := S) 8 rfl ?_
  refine ev_eqi (show (opI (· &&& ·) (w32 ((pop2 (pop1 z)) + (opI fUsh (pop2 (pop1 z)) 4))) 252645135) = (pop3 (pop2 (pop1 z))) from rfl) ?_
  show Ev X k_J6_bitCount_0f7a4 (33, [some (vi (pop2 (pop1 z)))], [vi (pop3 (pop2 (pop1 z)))]) (S) _
  refine ev_n (fr' := (40, [some (vi (pop3 (pop2 (pop1 z))))], [vi (w32 ((pop3 (pop2 (pop1 z))) + (opI fUsh (pop3 (pop2 (pop1 z))) 8)))])) (S' := S) 6 rfl ?_
  refine ev_eqi (show (w32 ((pop3 (pop2 (pop1 z))) + (opI fUsh (pop3 (pop2 (pop1 z))) 8))) = (pop4 (pop3 (pop2 (pop1 z)))) from rfl) ?_
  show Ev X k_J6_bitCount_0f7a4 (40, [some (vi (pop3 (pop2 (pop1 z))))], [vi (pop4 (pop3 (pop2 (pop1 z))))]) (S) _
  refine ev_n (fr' := (47, [some (vi (pop4 (pop3 (pop2 (pop1 z)))))], [vi (w32 ((pop4 (pop3 (pop2 (pop1 z)))) + (opI fUsh (pop4 (pop3 (pop2 (pop1 z)))) 16)))])) (S' := S) 6 rfl ?_
  refine ev_eqi (show (w32 ((pop4 (pop3 (pop2 (pop1 z)))) + (opI fUsh (pop4 (pop3 (pop2 (pop1 z)))) 16))) = (pop5 (pop4 (pop3 (pop2 (pop1 z))))) from rfl) ?_
  show Ev X k_J6_bitCount_0f7a4 (47, [some (vi (pop4 (pop3 (pop2 (pop1 z)))))], [vi (pop5 (pop4 (pop3 (pop2 (pop1 z)))))]) (S) _
  refine ev_n (fr' := (52, [some (vi (pop5 (pop4 (pop3 (pop2 (pop1 z))))))], [vi (opI (· &&& ·) (pop5 (pop4 (pop3 (pop2 (pop1 z))))) 63)])) (S' := S) 4 rfl ?_
  refine ev_r rfl rfl rfl ?_
  exact ⟨congrArg (fun z => Sum.inl (some (vi z))) (popZ_eq z), rfl⟩
theorem lp_ink_126 (X : AX) (I J : Nat → Nat → Int) (cc ss : Nat)  {D : Nat → Nat → Bool} {P e : Int} (hD : DR I 126 P e D) (k : Nat) (z : Int) (hk : k ≤ 32) (hz : z = sumF (fun y => sumF (fun x => if D y x then 1 else 0) 32) k) : Ev X k_X0_ink (4, [some (vr 126), some (vi z), some (vi (k : Int))], []) (MS I J cc ss) (fun o T => o = .inl (some (vi (cntB D))) ∧ T = MS I J cc ss) := by
  have hb := sumF_rng (f := fun y => sumF (fun x => if D y x then 1 else 0) 32) (b := 32) k (fun y _ => by
    have h2 := sumF_rng (f := fun x => if D y x then 1 else 0) (b := 1) 32 (fun x _ => by by_cases h : (D y x) = true <;> simp [h])
    exact ⟨h2.1, Int.le_trans h2.2 (by decide)⟩)
  have hb2 := sumF_rng (f := fun x => if D k x then 1 else 0) (b := 1) 32 (fun x _ => by by_cases h : (D k x) = true <;> simp [h])
  refine ev_n (fr' := (7, [some (vr 126), some (vi z), some (vi (k : Int))], [vi 32, vi (k : Int)])) (S' := MS I J cc ss) 2 rfl ?_
  refine ev_ic (c := .ge) (off := 21) rfl (by decide) (fun (g1 : 32 ≤ (k : Int)) => ?_) (fun (g1 : ¬ (32 ≤ (k : Int))) => ?_)
  · show Ev X k_X0_ink (28, [some (vr 126), some (vi z), some (vi (k : Int))], []) (MS I J cc ss) _
    refine ev_n (fr' := (29, [some (vr 126), some (vi z), some (vi (k : Int))], [vi z])) (S' := MS I J cc ss) 1 rfl ?_
    refine ev_r rfl rfl rfl ?_
    exact ⟨congrArg (fun z => Sum.inl (some (vi z))) (by rw [hz]; unfold cntB; rw [show (k : Nat) = 32 by omega]), rfl⟩
  · show Ev X k_X0_ink (10, [some (vr 126), some (vi z), some (vi (k : Int))], []) (MS I J cc ss) _
    refine ev_n (fr' := (16, [some (vr 126), some (vi z), some (vi (k : Int))], [vi (k : Int), vr 127, vi z])) (S' := MS I J cc ss) 4 rfl ?_
    refine ev_iaN (j := k) (z := (I 127 k)) rfl rfl (by omega) (by omega) (rfl) ?_
    show Ev X k_X0_ink (17, [some (vr 126), some (vi z), some (vi (k : Int))], [vi (I 127 k), vi z]) (MS I J cc ss) _
    refine ev_cv rfl rfl rfl ⟨Nat.le_of_ble_eq_true rfl, Nat.le_of_ble_eq_true rfl⟩ (sp_bitCount X _ (I 127 k) ) ?_
    show Ev X k_X0_ink (20, [some (vr 126), some (vi z), some (vi (k : Int))], [vi (popF (I 127 k)), vi z]) (MS I J cc ss) _
    refine ev_eqi (show (popF (I 127 k)) = (sumF (fun x => if D k x then 1 else 0) 32) from row_pop hD (by omega)) ?_
    show Ev X k_X0_ink (20, [some (vr 126), some (vi z), some (vi (k : Int))], [vi (sumF (fun x => if D k x then 1 else 0) 32), vi z]) (MS I J cc ss) _
    refine ev_add (z := z + (sumF (fun x => if D k x then 1 else 0) 32)) rfl (by omega) (by omega) (by omega) ?_
    show Ev X k_X0_ink (21, [some (vr 126), some (vi z), some (vi (k : Int))], [vi (z + (sumF (fun x => if D k x then 1 else 0) 32))]) (MS I J cc ss) _
    refine ev_n (fr' := (22, [some (vr 126), some (vi (z + (sumF (fun x => if D k x then 1 else 0) 32))), some (vi (k : Int))], [])) (S' := MS I J cc ss) 1 rfl ?_
    refine ev_inc (z := (k : Int) + 1) rfl rfl (by omega) (by omega) (by omega) rfl ?_
    show Ev X k_X0_ink (25, [some (vr 126), some (vi (z + (sumF (fun x => if D k x then 1 else 0) 32))), some (vi ((k : Int) + 1))], []) (MS I J cc ss) _
    refine ev_n (fr' := (4, [some (vr 126), some (vi (z + (sumF (fun x => if D k x then 1 else 0) 32))), some (vi ((k : Int) + 1))], [])) (S' := MS I J cc ss) 1 rfl ?_
    exact lp_ink_126 X I J cc ss hD (k + 1) (z + sumF (fun x => if D k x then 1 else 0) 32) (by omega) (by rw [hz]; rfl)
termination_by 32 - k
decreasing_by all_goals omega
theorem sp_ink_126 (X : AX) (I J : Nat → Nat → Int) (cc ss : Nat)  {D : Nat → Nat → Bool} {P e : Int} (hD : DR I 126 P e D) : Ev X k_X0_ink (0, [some (vr 126), none, none], []) (MS I J cc ss) (fun o T => o = .inl (some (vi (cntB D))) ∧ T = MS I J cc ss) := by
  refine ev_n (fr' := (4, [some (vr 126), some (vi 0), some (vi 0)], [])) (S' := MS I J cc ss) 4 rfl ?_
  exact lp_ink_126 X I J cc ss hD 0 0 (by omega) rfl
theorem sp_weight_126 (X : AX) (I J : Nat → Nat → Int) (cc ss : Nat)  {D : Nat → Nat → Bool} {P e : Int} (hD : DR I 126 P e D) (hQ4 : 4 ≤ P ∧ P ≤ 32) : Ev X k_X0_weight (0, [some (vr 126), none], []) (MS I J cc ss) (fun o T => o = .inl (some (vi (wF D P))) ∧ T = MS I J cc ss) := by
  have m1 := mul_rng (u := P) (P := P) (a := 32) (by omega) (by omega) (by omega) (by omega) (by omega)
  have m2 : 4 * 4 ≤ P * P := Int.mul_le_mul hQ4.1 hQ4.1 (by omega) (by omega)
  have h2 := cntB_rng D
  refine ev_n (fr' := (4, [some (vr 126), none], [vi (I 126 1)])) (S' := MS I J cc ss) 2 rfl ?_
  refine ev_eqi (hD.1) ?_
  show Ev X k_X0_weight (4, [some (vr 126), none], [vi P]) (MS I J cc ss) _
  refine ev_n (fr' := (8, [some (vr 126), none], [vi (I 126 1), vi P])) (S' := MS I J cc ss) 2 rfl ?_
  refine ev_eqi (hD.1) ?_
  show Ev X k_X0_weight (8, [some (vr 126), none], [vi P, vi P]) (MS I J cc ss) _
  refine ev_mul (z := (P * P)) rfl (by omega) (by omega) (by omega) ?_
  show Ev X k_X0_weight (9, [some (vr 126), none], [vi (P * P)]) (MS I J cc ss) _
  refine ev_n (fr' := (11, [some (vr 126), some (vi (P * P))], [vi (P * P)])) (S' := MS I J cc ss) 2 rfl ?_
  refine ev_if (c := .ne) (off := 7) rfl (by decide) (fun (g1 : (P * P) ≠ 0) => ?_) (fun (g1 : ¬ ((P * P) ≠ 0)) => False.elim (by omega))
  show Ev X k_X0_weight (18, [some (vr 126), some (vi (P * P))], []) (MS I J cc ss) _
  refine ev_n (fr' := (22, [some (vr 126), some (vi (P * P))], [vr 126, vi 1000])) (S' := MS I J cc ss) 2 rfl ?_
  refine ev_cv rfl rfl rfl ⟨Nat.le_of_ble_eq_true rfl, Nat.le_of_ble_eq_true rfl⟩ (sp_ink_126 X _ _ _ _  hD) ?_
  show Ev X k_X0_weight (25, [some (vr 126), some (vi (P * P))], [vi (cntB D), vi 1000]) (MS I J cc ss) _
  refine ev_mul (z := 1000 * (cntB D)) rfl (by omega) (by omega) (by omega) ?_
  show Ev X k_X0_weight (26, [some (vr 126), some (vi (P * P))], [vi (1000 * (cntB D))]) (MS I J cc ss) _
  refine ev_n (fr' := (27, [some (vr 126), some (vi (P * P))], [vi (P * P), vi (1000 * (cntB D))])) (S' := MS I J cc ss) 1 rfl ?_
  refine ev_div (z := (1000 * (cntB D)) / (P * P)) rfl (by omega) (by omega) rfl ?_
  show Ev X k_X0_weight (28, [some (vr 126), some (vi (P * P))], [vi ((1000 * (cntB D)) / (P * P))]) (MS I J cc ss) _
  refine ev_r rfl rfl rfl ?_
  exact ⟨rfl, rfl⟩
theorem lp_pixelsUnlike_126 (X : AX) (I J : Nat → Nat → Int) (cc ss : Nat)  {D : Nat → Nat → Bool} {P e : Int} {D2 : Nat → Nat → Bool} (hD : DR I 126 P e D) (hD2 : DR I 128 P e D2) (k : Nat) (z : Int) (hk : k ≤ 32) (hz : z = sumF (fun y => sumF (fun x => if (D y x ^^ D2 y x) then 1 else 0) 32) k) : Ev X k_X0_pixelsUnlike (4, [some (vr 126), some (vr 128), some (vi z), some (vi (k : Int))], []) (MS I J cc ss) (fun o T => o = .inl (some (vi (cntB (fun y x => D y x ^^ D2 y x)))) ∧ T = MS I J cc ss) := by
  have hb := sumF_rng (f := fun y => sumF (fun x => if (D y x ^^ D2 y x) then 1 else 0) 32) (b := 32) k (fun y _ => by
    have h2 := sumF_rng (f := fun x => if (D y x ^^ D2 y x) then 1 else 0) (b := 1) 32 (fun x _ => by by_cases h : ((D y x ^^ D2 y x)) = true <;> simp [h])
    exact ⟨h2.1, Int.le_trans h2.2 (by decide)⟩)
  have hb2 := sumF_rng (f := fun x => if (D k x ^^ D2 k x) then 1 else 0) (b := 1) 32 (fun x _ => by by_cases h : ((D k x ^^ D2 k x)) = true <;> simp [h])
  refine ev_n (fr' := (7, [some (vr 126), some (vr 128), some (vi z), some (vi (k : Int))], [vi 32, vi (k : Int)])) (S' := MS I J cc ss) 2 rfl ?_
  refine ev_ic (c := .ge) (off := 28) rfl (by decide) (fun (g1 : 32 ≤ (k : Int)) => ?_) (fun (g1 : ¬ (32 ≤ (k : Int))) => ?_)
  · show Ev X k_X0_pixelsUnlike (35, [some (vr 126), some (vr 128), some (vi z), some (vi (k : Int))], []) (MS I J cc ss) _
    refine ev_n (fr' := (36, [some (vr 126), some (vr 128), some (vi z), some (vi (k : Int))], [vi z])) (S' := MS I J cc ss) 1 rfl ?_
    refine ev_r rfl rfl rfl ?_
    exact ⟨congrArg (fun z => Sum.inl (some (vi z))) (by rw [hz]; unfold cntB; rw [show (k : Nat) = 32 by omega]), rfl⟩
  · show Ev X k_X0_pixelsUnlike (10, [some (vr 126), some (vr 128), some (vi z), some (vi (k : Int))], []) (MS I J cc ss) _
    refine ev_n (fr' := (16, [some (vr 126), some (vr 128), some (vi z), some (vi (k : Int))], [vi (k : Int), vr 127, vi z])) (S' := MS I J cc ss) 4 rfl ?_
    refine ev_iaN (j := k) (z := (I 127 k)) rfl rfl (by omega) (by omega) (rfl) ?_
    show Ev X k_X0_pixelsUnlike (17, [some (vr 126), some (vr 128), some (vi z), some (vi (k : Int))], [vi (I 127 k), vi z]) (MS I J cc ss) _
    refine ev_n (fr' := (22, [some (vr 126), some (vr 128), some (vi z), some (vi (k : Int))], [vi (k : Int), vr 129, vi (I 127 k), vi z])) (S' := MS I J cc ss) 3 rfl ?_
    refine ev_iaN (j := k) (z := (I 129 k)) rfl rfl (by omega) (by omega) (rfl) ?_
    show Ev X k_X0_pixelsUnlike (23, [some (vr 126), some (vr 128), some (vi z), some (vi (k : Int))], [vi (I 129 k), vi (I 127 k), vi z]) (MS I J cc ss) _
    refine ev_n (fr' := (24, [some (vr 126), some (vr 128), some (vi z), some (vi (k : Int))], [vi (opI (· ^^^ ·) (I 127 k) (I 129 k)), vi z])) (S' := MS I J cc ss) 1 rfl ?_
    refine ev_cv rfl rfl rfl ⟨Nat.le_of_ble_eq_true rfl, Nat.le_of_ble_eq_true rfl⟩ (sp_bitCount X _ (opI (· ^^^ ·) (I 127 k) (I 129 k)) ) ?_
    show Ev X k_X0_pixelsUnlike (27, [some (vr 126), some (vr 128), some (vi z), some (vi (k : Int))], [vi (popF (opI (· ^^^ ·) (I 127 k) (I 129 k))), vi z]) (MS I J cc ss) _
    refine ev_eqi (show (popF (opI (· ^^^ ·) (I 127 k) (I 129 k))) = (sumF (fun x => if (D k x ^^ D2 k x) then 1 else 0) 32) from by
      unfold popF
      exact sumF_congr 32 (fun c hc => by rw [bt_xor, (hD.2.2 k (by omega)).2 c hc, (hD2.2.2 k (by omega)).2 c hc])) ?_
    show Ev X k_X0_pixelsUnlike (27, [some (vr 126), some (vr 128), some (vi z), some (vi (k : Int))], [vi (sumF (fun x => if (D k x ^^ D2 k x) then 1 else 0) 32), vi z]) (MS I J cc ss) _
    refine ev_add (z := z + (sumF (fun x => if (D k x ^^ D2 k x) then 1 else 0) 32)) rfl (by omega) (by omega) (by omega) ?_
    show Ev X k_X0_pixelsUnlike (28, [some (vr 126), some (vr 128), some (vi z), some (vi (k : Int))], [vi (z + (sumF (fun x => if (D k x ^^ D2 k x) then 1 else 0) 32))]) (MS I J cc ss) _
    refine ev_n (fr' := (29, [some (vr 126), some (vr 128), some (vi (z + (sumF (fun x => if (D k x ^^ D2 k x) then 1 else 0) 32))), some (vi (k : Int))], [])) (S' := MS I J cc ss) 1 rfl ?_
    refine ev_inc (z := (k : Int) + 1) rfl rfl (by omega) (by omega) (by omega) rfl ?_
    show Ev X k_X0_pixelsUnlike (32, [some (vr 126), some (vr 128), some (vi (z + (sumF (fun x => if (D k x ^^ D2 k x) then 1 else 0) 32))), some (vi ((k : Int) + 1))], []) (MS I J cc ss) _
    refine ev_n (fr' := (4, [some (vr 126), some (vr 128), some (vi (z + (sumF (fun x => if (D k x ^^ D2 k x) then 1 else 0) 32))), some (vi ((k : Int) + 1))], [])) (S' := MS I J cc ss) 1 rfl ?_
    exact lp_pixelsUnlike_126 X I J cc ss hD hD2 (k + 1) (z + sumF (fun x => if (D k x ^^ D2 k x) then 1 else 0) 32) (by omega) (by rw [hz]; rfl)
termination_by 32 - k
decreasing_by all_goals omega
theorem sp_pixelsUnlike_126 (X : AX) (I J : Nat → Nat → Int) (cc ss : Nat)  {D : Nat → Nat → Bool} {P e : Int} {D2 : Nat → Nat → Bool} (hD : DR I 126 P e D) (hD2 : DR I 128 P e D2) : Ev X k_X0_pixelsUnlike (0, [some (vr 126), some (vr 128), none, none], []) (MS I J cc ss) (fun o T => o = .inl (some (vi (cntB (fun y x => D y x ^^ D2 y x)))) ∧ T = MS I J cc ss) := by
  refine ev_n (fr' := (4, [some (vr 126), some (vr 128), some (vi 0), some (vi 0)], [])) (S' := MS I J cc ss) 4 rfl ?_
  exact lp_pixelsUnlike_126 X I J cc ss hD hD2 0 0 (by omega) rfl
theorem lp_allRows (X : AX) (I J : Nat → Nat → Int) (cc ss : Nat) {D : Nat → Nat → Bool} {P e : Int} (hD : DR I 126 P e D) (k : Nat) (z : Int) (hk : k ≤ 32) (hr : in32 z) (hz : ∀ c, c < 32 → bt z c = orN (fun y => D y c) k) : Ev X k_X0_allRows (4, [some (vr 126), some (vi z), some (vi (k : Int))], []) (MS I J cc ss) (PZ cc ss (fun z I' J' => I' = I ∧ J' = J ∧ in32 z ∧ ∀ c, c < 32 → bt z c = colB D c)) := by
  refine ev_n (fr' := (7, [some (vr 126), some (vi z), some (vi (k : Int))], [vi 32, vi (k : Int)])) (S' := MS I J cc ss) 2 rfl ?_
  refine ev_ic (c := .ge) (off := 18) rfl (by decide) (fun (g1 : 32 ≤ (k : Int)) => ?_) (fun (g1 : ¬ (32 ≤ (k : Int))) => ?_)
  · show Ev X k_X0_allRows (25, [some (vr 126), some (vi z), some (vi (k : Int))], []) (MS I J cc ss) _
    refine ev_n (fr' := (26, [some (vr 126), some (vi z), some (vi (k : Int))], [vi z])) (S' := MS I J cc ss) 1 rfl ?_
    refine ev_r rfl rfl rfl ?_
    exact ⟨_, _, _, rfl, rfl, rfl, rfl, hr, fun c hc => by rw [hz c hc]; unfold colB; rw [show k = 32 by omega]⟩
  · show Ev X k_X0_allRows (10, [some (vr 126), some (vi z), some (vi (k : Int))], []) (MS I J cc ss) _
    refine ev_n (fr' := (16, [some (vr 126), some (vi z), some (vi (k : Int))], [vi (k : Int), vr 127, vi z])) (S' := MS I J cc ss) 4 rfl ?_
    refine ev_iaN (j := k) (z := (I 127 k)) rfl rfl (by omega) (by omega) (rfl) ?_
    show Ev X k_X0_allRows (17, [some (vr 126), some (vi z), some (vi (k : Int))], [vi (I 127 k), vi z]) (MS I J cc ss) _
    refine ev_n (fr' := (19, [some (vr 126), some (vi (opI (· ||| ·) z (I 127 k))), some (vi (k : Int))], [])) (S' := MS I J cc ss) 2 rfl ?_
    refine ev_inc (z := (k : Int) + 1) rfl rfl (by omega) (by omega) (by omega) rfl ?_
    show Ev X k_X0_allRows (22, [some (vr 126), some (vi (opI (· ||| ·) z (I 127 k))), some (vi ((k : Int) + 1))], []) (MS I J cc ss) _
    refine ev_n (fr' := (4, [some (vr 126), some (vi (opI (· ||| ·) z (I 127 k))), some (vi ((k : Int) + 1))], [])) (S' := MS I J cc ss) 1 rfl ?_
    exact lp_allRows X _ _ cc ss hD (k + 1) _ (by omega) (opI_rng _ _ _) (fun c hc => by rw [bt_or, hz c hc, (hD.2.2 k (by omega)).2 c hc]; rfl)
termination_by 32 - k
decreasing_by all_goals omega
theorem sp_allRows (X : AX) (I J : Nat → Nat → Int) (cc ss : Nat) {D : Nat → Nat → Bool} {P e : Int} (hD : DR I 126 P e D) : Ev X k_X0_allRows (0, [some (vr 126), none, none], []) (MS I J cc ss) (PZ cc ss (fun z I' J' => I' = I ∧ J' = J ∧ in32 z ∧ ∀ c, c < 32 → bt z c = colB D c)) := by
  refine ev_n (fr' := (4, [some (vr 126), some (vi 0), some (vi 0)], [])) (S' := MS I J cc ss) 4 rfl ?_
  exact lp_allRows X _ _ cc ss hD 0 0 (by omega) ⟨by omega, by omega⟩ (fun c _ => bt_zero c)
theorem lp_firstColumn (X : AX) (I J : Nat → Nat → Int) (cc ss : Nat) {D : Nat → Nat → Bool} {z : Int} (hz : ∀ c, c < 32 → bt z c = colB D c) (k : Nat) (hk : k ≤ 32) (hq : ∀ q, q < k → colB D q = false) : Ev X k_X0_firstColumn (7, [some (vr 126), some (vi z), some (vi (k : Int))], []) (MS I J cc ss) (fun o T => o = .inl (some (vi (firstF (colB D)))) ∧ T = MS I J cc ss) := by
  refine ev_n (fr' := (10, [some (vr 126), some (vi z), some (vi (k : Int))], [vi 32, vi (k : Int)])) (S' := MS I J cc ss) 2 rfl ?_
  refine ev_ic (c := .ge) (off := 20) rfl (by decide) (fun (g1 : 32 ≤ (k : Int)) => ?_) (fun (g1 : ¬ (32 ≤ (k : Int))) => ?_)
  · show Ev X k_X0_firstColumn (30, [some (vr 126), some (vi z), some (vi (k : Int))], []) (MS I J cc ss) _
    refine ev_n (fr' := (31, [some (vr 126), some (vi z), some (vi (k : Int))], [vi (-1)])) (S' := MS I J cc ss) 1 rfl ?_
    refine ev_r rfl rfl rfl ?_
    exact ⟨congrArg (fun z => Sum.inl (some (vi z))) (firstF_miss (fun q h => hq q (by omega))).symm, rfl⟩
  · show Ev X k_X0_firstColumn (13, [some (vr 126), some (vi z), some (vi (k : Int))], []) (MS I J cc ss) _
    refine ev_n (fr' := (18, [some (vr 126), some (vi z), some (vi (k : Int))], [vi (opI (· &&& ·) (opI fUsh z (k : Int)) 1)])) (S' := MS I J cc ss) 5 rfl ?_
    refine ev_eqi (show (opI (· &&& ·) (opI fUsh z (k : Int)) 1) = (if bt z k = true then 1 else 0) from ush_and1 (by omega) z) ?_
    show Ev X k_X0_firstColumn (18, [some (vr 126), some (vi z), some (vi (k : Int))], [vi (if bt z k = true then 1 else 0)]) (MS I J cc ss) _
    refine ev_n (fr' := (19, [some (vr 126), some (vi z), some (vi (k : Int))], [vi 1, vi (if bt z k = true then 1 else 0)])) (S' := MS I J cc ss) 1 rfl ?_
    refine ev_ic (c := .ne) (off := 5) rfl (by decide) (fun (g2 : (if bt z k = true then 1 else 0) ≠ 1) => ?_) (fun (g2 : ¬ ((if bt z k = true then 1 else 0) ≠ 1)) => ?_)
    · show Ev X k_X0_firstColumn (24, [some (vr 126), some (vi z), some (vi (k : Int))], []) (MS I J cc ss) _
      refine ev_inc (z := (k : Int) + 1) rfl rfl (by omega) (by omega) (by omega) rfl ?_
      show Ev X k_X0_firstColumn (27, [some (vr 126), some (vi z), some (vi ((k : Int) + 1))], []) (MS I J cc ss) _
      refine ev_n (fr' := (7, [some (vr 126), some (vi z), some (vi ((k : Int) + 1))], [])) (S' := MS I J cc ss) 1 rfl ?_
      exact lp_firstColumn X _ _ cc ss hz (k + 1) (by omega) (nlt_succ hq (by rw [← hz k (by omega)]; exact Bool.not_eq_true _ ▸ (fun h => g2 (by rw [if_pos h]))))
    · show Ev X k_X0_firstColumn (22, [some (vr 126), some (vi z), some (vi (k : Int))], []) (MS I J cc ss) _
      refine ev_n (fr' := (23, [some (vr 126), some (vi z), some (vi (k : Int))], [vi (k : Int)])) (S' := MS I J cc ss) 1 rfl ?_
      refine ev_r rfl rfl rfl ?_
      exact ⟨congrArg (fun z => Sum.inl (some (vi z))) (firstF_hit (by omega) (by rw [← hz k (by omega)]; exact Decidable.of_not_not (fun h => g2 (by rw [if_neg h]; decide))) hq).symm, rfl⟩
termination_by 32 - k
decreasing_by all_goals omega
theorem sp_firstColumn (X : AX) (I J : Nat → Nat → Int) (cc ss : Nat) {D : Nat → Nat → Bool} {P e : Int} (hD : DR I 126 P e D) : Ev X k_X0_firstColumn (0, [some (vr 126), none, none], []) (MS I J cc ss) (fun o T => o = .inl (some (vi (firstF (colB D)))) ∧ T = MS I J cc ss) := by
  refine ev_n (fr' := (1, [some (vr 126), none, none], [vr 126])) (S' := MS I J cc ss) 1 rfl ?_
  refine ev_cz rfl rfl rfl ⟨Nat.le_of_ble_eq_true rfl, Nat.le_of_ble_eq_true rfl⟩ (sp_allRows X _ _ _ _ hD) (fun z I J q1 => ?_)
  obtain ⟨rfl, rfl, hz1, hz⟩ := q1
  show Ev X k_X0_firstColumn (4, [some (vr 126), none, none], [vi z]) (MS I J cc ss) _
  refine ev_n (fr' := (7, [some (vr 126), some (vi z), some (vi 0)], [])) (S' := MS I J cc ss) 3 rfl ?_
  exact lp_firstColumn X _ _ cc ss hz 0 (by omega) (fun q h => absurd h (by omega))
theorem lp_lastColumn (X : AX) (I J : Nat → Nat → Int) (cc ss : Nat) {D : Nat → Nat → Bool} {z : Int} (hz : ∀ c, c < 32 → bt z c = colB D c) (k : Nat) (hk : k ≤ 32) (hq : ∀ q, k ≤ q → q < 32 → colB D q = false) : Ev X k_X0_lastColumn (8, [some (vr 126), some (vi z), some (vi ((k : Int) - 1))], []) (MS I J cc ss) (fun o T => o = .inl (some (vi (lastF (colB D)))) ∧ T = MS I J cc ss) := by
  refine ev_n (fr' := (9, [some (vr 126), some (vi z), some (vi ((k : Int) - 1))], [vi ((k : Int) - 1)])) (S' := MS I J cc ss) 1 rfl ?_
  refine ev_if (c := .lt) (off := 20) rfl (by decide) (fun (g1 : (k : Int) - 1 < 0) => ?_) (fun (g1 : ¬ ((k : Int) - 1 < 0)) => ?_)
  · show Ev X k_X0_lastColumn (29, [some (vr 126), some (vi z), some (vi ((k : Int) - 1))], []) (MS I J cc ss) _
    refine ev_n (fr' := (30, [some (vr 126), some (vi z), some (vi ((k : Int) - 1))], [vi (-1)])) (S' := MS I J cc ss) 1 rfl ?_
    refine ev_r rfl rfl rfl ?_
    exact ⟨congrArg (fun z => Sum.inl (some (vi z))) (lstN_miss 32 (fun q h => hq q (by omega) h)).symm, rfl⟩
  · show Ev X k_X0_lastColumn (12, [some (vr 126), some (vi z), some (vi ((k : Int) - 1))], []) (MS I J cc ss) _
    refine ev_n (fr' := (17, [some (vr 126), some (vi z), some (vi ((k : Int) - 1))], [vi (opI (· &&& ·) (opI fUsh z ((k : Int) - 1)) 1)])) (S' := MS I J cc ss) 5 rfl ?_
    refine ev_eqi (show (opI (· &&& ·) (opI fUsh z ((k : Int) - 1)) 1) = (if bt z (k - 1) = true then 1 else 0) from by
      rw [show (k : Int) - 1 = ((k - 1 : Nat) : Int) by omega]; exact ush_and1 (by omega) z) ?_
    show Ev X k_X0_lastColumn (17, [some (vr 126), some (vi z), some (vi ((k : Int) - 1))], [vi (if bt z (k - 1) = true then 1 else 0)]) (MS I J cc ss) _
    refine ev_n (fr' := (18, [some (vr 126), some (vi z), some (vi ((k : Int) - 1))], [vi 1, vi (if bt z (k - 1) = true then 1 else 0)])) (S' := MS I J cc ss) 1 rfl ?_
    refine ev_ic (c := .ne) (off := 5) rfl (by decide) (fun (g2 : (if bt z (k - 1) = true then 1 else 0) ≠ 1) => ?_) (fun (g2 : ¬ ((if bt z (k - 1) = true then 1 else 0) ≠ 1)) => ?_)
    · show Ev X k_X0_lastColumn (23, [some (vr 126), some (vi z), some (vi ((k : Int) - 1))], []) (MS I J cc ss) _
      refine ev_inc (z := (k : Int) - 2) rfl rfl (by omega) (by omega) (by omega) rfl ?_
      show Ev X k_X0_lastColumn (26, [some (vr 126), some (vi z), some (vi ((k : Int) - 2))], []) (MS I J cc ss) _
      refine ev_n (fr' := (8, [some (vr 126), some (vi z), some (vi ((k : Int) - 2))], [])) (S' := MS I J cc ss) 1 rfl ?_
      rw [show (k : Int) - 2 = ((k - 1 : Nat) : Int) - 1 by omega]
      exact lp_lastColumn X _ _ cc ss hz (k - 1) (by omega) (fun q h1 h2 => (Nat.lt_or_ge q k).elim (fun h3 => by rw [show q = k - 1 by omega, ← hz (k - 1) (by omega)]; exact Bool.not_eq_true _ ▸ (fun h => g2 (by rw [if_pos h]))) (fun h3 => hq q h3 h2))
    · show Ev X k_X0_lastColumn (21, [some (vr 126), some (vi z), some (vi ((k : Int) - 1))], []) (MS I J cc ss) _
      refine ev_n (fr' := (22, [some (vr 126), some (vi z), some (vi ((k : Int) - 1))], [vi ((k : Int) - 1)])) (S' := MS I J cc ss) 1 rfl ?_
      refine ev_r rfl rfl rfl ?_
      exact ⟨congrArg (fun z => Sum.inl (some (vi z))) ((lstN_hit (c := k - 1) (by rw [← hz (k - 1) (by omega)]; exact Decidable.of_not_not (fun h => g2 (by rw [if_neg h]; decide))) 32 (by omega) (fun q h1 h2 => hq q (by omega) h2)).trans (by omega)).symm, rfl⟩
termination_by k
decreasing_by all_goals omega
theorem sp_lastColumn (X : AX) (I J : Nat → Nat → Int) (cc ss : Nat) {D : Nat → Nat → Bool} {P e : Int} (hD : DR I 126 P e D) : Ev X k_X0_lastColumn (0, [some (vr 126), none, none], []) (MS I J cc ss) (fun o T => o = .inl (some (vi (lastF (colB D)))) ∧ T = MS I J cc ss) := by
  refine ev_n (fr' := (1, [some (vr 126), none, none], [vr 126])) (S' := MS I J cc ss) 1 rfl ?_
  refine ev_cz rfl rfl rfl ⟨Nat.le_of_ble_eq_true rfl, Nat.le_of_ble_eq_true rfl⟩ (sp_allRows X _ _ _ _ hD) (fun z I J q1 => ?_)
  obtain ⟨rfl, rfl, hz1, hz⟩ := q1
  show Ev X k_X0_lastColumn (4, [some (vr 126), none, none], [vi z]) (MS I J cc ss) _
  refine ev_n (fr' := (8, [some (vr 126), some (vi z), some (vi 31)], [])) (S' := MS I J cc ss) 3 rfl ?_
  exact lp_lastColumn X _ _ cc ss hz 32 (by omega) (fun q h h2 => absurd h (by omega))
