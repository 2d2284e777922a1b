/-! PICTURES, quotients (printed by gen/g32.py) -/
def F3 : Type := Nat → Nat → Bool
theorem emod_pos_lt (x : Int) {y : Int} (h : 0 < y) : 0 ≤ x % y ∧ x % y < y := ⟨Int.emod_nonneg x (by omega), Int.emod_lt_of_pos x h⟩
theorem sp_floorDiv (X : AX) (S : AS) (x y : Int) (hx : -2147483000 ≤ x ∧ x ≤ 2147483000) (hy : 0 < y ∧ y ≤ 2147483000) : Ev X k_J9_floorDiv_7cf53 (0, [some (vi x), some (vi y), none], []) S (fun o T => o = .inl (some (vi (x / y))) ∧ T = S) := by
  have h1 := Int.mul_ediv_add_emod x y
  have h2 := emod_pos_lt x hy.1
  have h3 := div_I (x := x) (y := y) ⟨by omega, by omega⟩ ⟨by omega, by omega⟩ (by omega)
  have h4 := xor_neg (x := x) (y := y) ⟨by omega, by omega⟩ ⟨by omega, by omega⟩ hy.1
  have hz : y ≠ 0 := by omega
  refine ev_p (L' := [some (vi x), some (vi y), none]) (st' := [vi x]) (S' := S) rfl rfl ?_
  refine ev_p (L' := [some (vi x), some (vi y), none]) (st' := [vi y, vi x]) (S' := S) rfl rfl ?_
  refine ev_p (L' := [some (vi x), some (vi y), none]) (st' := [vi (x.tdiv y)]) (S' := S) rfl (show (if y = 0 then none else some (_, vi (opI (· / ·) x y) :: [], S)) = _ by rw [if_neg hz, h3]) ?_
  refine ev_n (fr' := (7, [some (vi x), some (vi y), some (vi (x.tdiv y))], [vi (opI (· ^^^ ·) x y)])) (S' := S) 4 rfl ?_
  refine ev_if (c := .ge) (off := 14) rfl (by decide) (fun (g1 : 0 ≤ opI (· ^^^ ·) x y) => ?_) (fun (g1 : ¬ (0 ≤ opI (· ^^^ ·) x y)) => ?_)
  · show Ev X k_J9_floorDiv_7cf53 (21, [some (vi x), some (vi y), some (vi (x.tdiv y))], []) S _
    refine ev_n (fr' := (22, [some (vi x), some (vi y), some (vi (x.tdiv y))], [vi (x.tdiv y)])) (S' := S) 1 rfl ?_
    refine ev_r rfl rfl rfl ?_
    rw [tdiv_pos hy.1 (h4.mp g1)]; exact ⟨rfl, rfl⟩
  · have h5 := tdiv_neg (x := x) hy.1 (by rw [h4] at g1; omega)
    have hm : x.tdiv y * y = x ∨ x.tdiv y * y ≠ x := Decidable.em _
    have h6 : in32 (x.tdiv y * y) := by
      rcases hm with q | q
      · rw [q]; exact ⟨by omega, by omega⟩
      · rw [if_neg q] at h5
        rw [h5, Int.add_mul, Int.mul_comm (x / y) y]
        exact ⟨by omega, by omega⟩
    show Ev X k_J9_floorDiv_7cf53 (10, [some (vi x), some (vi y), some (vi (x.tdiv y))], []) S _
    refine ev_n (fr' := (12, [some (vi x), some (vi y), some (vi (x.tdiv y))], [vi y, vi (x.tdiv y)])) (S' := S) 2 rfl ?_
    refine ev_mul (z := x.tdiv y * y) rfl rfl h6.1 h6.2 ?_
    refine ev_n (fr' := (14, [some (vi x), some (vi y), some (vi (x.tdiv y))], [vi x, vi (x.tdiv y * y)])) (S' := S) 1 rfl ?_
    refine ev_ic (c := .eq) (off := 7) rfl (by decide) (fun (g2 : x.tdiv y * y = x) => ?_) (fun (g2 : ¬ (x.tdiv y * y = x)) => ?_)
    · show Ev X k_J9_floorDiv_7cf53 (21, [some (vi x), some (vi y), some (vi (x.tdiv y))], []) S _
      refine ev_n (fr' := (22, [some (vi x), some (vi y), some (vi (x.tdiv y))], [vi (x.tdiv y)])) (S' := S) 1 rfl ?_
      refine ev_r rfl rfl rfl ?_
      rw [if_pos g2] at h5; rw [h5]; exact ⟨rfl, rfl⟩
    · rw [if_neg g2] at h5
      have h7 : -2147483000 ≤ x.tdiv y ∧ x.tdiv y ≤ 2147483000 := by
        have h9 : x / y < 0 := Int.ediv_neg_of_neg_of_pos (by rw [h4] at g1; omega) hy.1
        have h10 : x ≤ x / y := by
          have e1 : x / y * y ≤ x / y * 1 := Int.mul_le_mul_of_nonpos_left (by omega) (by omega)
          have e2 : y * (x / y) = x / y * y := Int.mul_comm _ _
          have e3 : x < (x / y + 1) * y := by rw [Int.add_mul]; omega
          have e4 : (x / y + 1) * y ≤ (x / y + 1) * 1 := Int.mul_le_mul_of_nonpos_left (by omega) (by omega)
          omega
        omega
      show Ev X k_J9_floorDiv_7cf53 (17, [some (vi x), some (vi y), some (vi (x.tdiv y))], []) S _
      refine ev_n (fr' := (19, [some (vi x), some (vi y), some (vi (x.tdiv y))], [vi 1, vi (x.tdiv y)])) (S' := S) 2 rfl ?_
      refine ev_sub (z := x / y) rfl (by omega) (by omega) (by omega) ?_
      refine ev_r rfl rfl rfl ?_
      exact ⟨rfl, rfl⟩
theorem sp_c_snapped (X : AX) (S : AS) (u : Int) (P : Int) (h : -200 ≤ u ∧ u ≤ 200) (hP : 0 ≤ P ∧ P ≤ 32) : Ev X k_X8_snapped (0, [some (vi u), some (vi P)], []) (S) (fun o T => o = .inl (some (vi (snapF u P))) ∧ T = S) := by
  have hm := mul_rng h.1 h.2 hP.1 hP.2 (by omega)
  have he : 2 * u * P = 2 * (u * P) := Int.mul_assoc 2 u P
  refine ev_n (fr' := (2, [some (vi u), some (vi P)], [vi u, vi 2])) (S' := S) 2 rfl ?_
  refine ev_mul (z := 2 * u) rfl (by omega) (by omega) (by omega) ?_
  show Ev X k_X8_snapped (3, [some (vi u), some (vi P)], [vi (2 * u)]) (S) _
  refine ev_n (fr' := (4, [some (vi u), some (vi P)], [vi P, vi (2 * u)])) (S' := S) 1 rfl ?_
  refine ev_mul (z := ((2 * u) * P)) rfl (by omega) (by omega) (by omega) ?_
  show Ev X k_X8_snapped (5, [some (vi u), some (vi P)], [vi ((2 * u) * P)]) (S) _
  refine ev_n (fr' := (7, [some (vi u), some (vi P)], [vi 48, vi ((2 * u) * P)])) (S' := S) 1 rfl ?_
  refine ev_add (z := ((2 * u) * P) + 48) rfl (by omega) (by omega) (by omega) ?_
  show Ev X k_X8_snapped (8, [some (vi u), some (vi P)], [vi (((2 * u) * P) + 48)]) (S) _
  refine ev_n (fr' := (10, [some (vi u), some (vi P)], [vi 96, vi (((2 * u) * P) + 48)])) (S' := S) 1 rfl ?_
  refine ev_cv rfl rfl rfl ⟨Nat.le_of_ble_eq_true rfl, Nat.le_of_ble_eq_true rfl⟩ (sp_floorDiv X _ (((2 * u) * P) + 48) 96 (by omega) (by omega)) ?_
  show Ev X k_X8_snapped (13, [some (vi u), some (vi P)], [vi ((((2 * u) * P) + 48) / 96)]) (S) _
  refine ev_r rfl rfl rfl ?_
  exact ⟨rfl, rfl⟩
theorem sp_r_snapped (X : AX) (S : AS) (u : Int) (P : Int) (h : -200 ≤ u ∧ u ≤ 200) (hP : 0 ≤ P ∧ P ≤ 32) : Ev X k_X9_snapped (0, [some (vi u), some (vi P)], []) (S) (fun o T => o = .inl (some (vi (snapF u P))) ∧ T = S) := by
  have hm := mul_rng h.1 h.2 hP.1 hP.2 (by omega)
  have he : 2 * u * P = 2 * (u * P) := Int.mul_assoc 2 u P
  refine ev_n (fr' := (2, [some (vi u), some (vi P)], [vi u, vi 2])) (S' := S) 2 rfl ?_
  refine ev_mul (z := 2 * u) rfl (by omega) (by omega) (by omega) ?_
  show Ev X k_X9_snapped (3, [some (vi u), some (vi P)], [vi (2 * u)]) (S) _
  refine ev_n (fr' := (4, [some (vi u), some (vi P)], [vi P, vi (2 * u)])) (S' := S) 1 rfl ?_
  refine ev_mul (z := ((2 * u) * P)) rfl (by omega) (by omega) (by omega) ?_
  show Ev X k_X9_snapped (5, [some (vi u), some (vi P)], [vi ((2 * u) * P)]) (S) _
  refine ev_n (fr' := (7, [some (vi u), some (vi P)], [vi 48, vi ((2 * u) * P)])) (S' := S) 1 rfl ?_
  refine ev_add (z := ((2 * u) * P) + 48) rfl (by omega) (by omega) (by omega) ?_
  show Ev X k_X9_snapped (8, [some (vi u), some (vi P)], [vi (((2 * u) * P) + 48)]) (S) _
  refine ev_n (fr' := (10, [some (vi u), some (vi P)], [vi 96, vi (((2 * u) * P) + 48)])) (S' := S) 1 rfl ?_
  refine ev_cv rfl rfl rfl ⟨Nat.le_of_ble_eq_true rfl, Nat.le_of_ble_eq_true rfl⟩ (sp_floorDiv X _ (((2 * u) * P) + 48) 96 (by omega) (by omega)) ?_
  show Ev X k_X9_snapped (13, [some (vi u), some (vi P)], [vi ((((2 * u) * P) + 48) / 96)]) (S) _
  refine ev_r rfl rfl rfl ?_
  exact ⟨rfl, rfl⟩
theorem sp_c_strokeOf (X : AX) (S : AS) (t : Int) (P : Int) (e : Int) (h : -200 ≤ t ∧ t ≤ 200) (hP : 0 ≤ P ∧ P ≤ 32) (he : -2 ≤ e ∧ e ≤ 2) : Ev X k_X8_strokeOf (0, [some (vi t), some (vi P), some (vi e)], []) (S) (fun o T => o = .inl (some (vi (strokeF t P e))) ∧ T = S) := by
  have hm := snapF_rng h.1 h.2 hP.1 hP.2
  refine ev_n (fr' := (3, [some (vi t), some (vi P), some (vi e)], [vi P, vi t, vi 1])) (S' := S) 3 rfl ?_
  refine ev_cv rfl rfl rfl ⟨Nat.le_of_ble_eq_true rfl, Nat.le_of_ble_eq_true rfl⟩ (sp_c_snapped X _ t P (by omega) (by omega)) ?_
  show Ev X k_X8_strokeOf (6, [some (vi t), some (vi P), some (vi e)], [vi (snapF t P), vi 1]) (S) _
  refine ev_n (fr' := (7, [some (vi t), some (vi P), some (vi e)], [vi e, vi (snapF t P), vi 1])) (S' := S) 1 rfl ?_
  refine ev_add (z := (snapF t P) + e) rfl (by omega) (by omega) (by omega) ?_
  show Ev X k_X8_strokeOf (8, [some (vi t), some (vi P), some (vi e)], [vi ((snapF t P) + e), vi 1]) (S) _
  refine ev_cv rfl rfl rfl ⟨Nat.le_of_ble_eq_true rfl, Nat.le_of_ble_eq_true rfl⟩ (sp_max X _ 1 ((snapF t P) + e) ) ?_
  show Ev X k_X8_strokeOf (11, [some (vi t), some (vi P), some (vi e)], [vi (if 1 < (snapF t P) + e then (snapF t P) + e else 1)]) (S) _
  refine ev_r rfl rfl rfl ?_
  exact ⟨congrArg (fun z => Sum.inl (some (vi z))) (by unfold strokeF; omega), rfl⟩
theorem sp_r_strokeOf (X : AX) (S : AS) (t : Int) (P : Int) (e : Int) (h : -200 ≤ t ∧ t ≤ 200) (hP : 0 ≤ P ∧ P ≤ 32) (he : -2 ≤ e ∧ e ≤ 2) : Ev X k_X9_strokeOf (0, [some (vi t), some (vi P), some (vi e), none], []) (S) (fun o T => o = .inl (some (vi (strokeF t P e))) ∧ T = S) := by
  have hm := snapF_rng h.1 h.2 hP.1 hP.2
  refine ev_n (fr' := (2, [some (vi t), some (vi P), some (vi e), none], [vi P, vi t])) (S' := S) 2 rfl ?_
  refine ev_cv rfl rfl rfl ⟨Nat.le_of_ble_eq_true rfl, Nat.le_of_ble_eq_true rfl⟩ (sp_r_snapped X _ t P (by omega) (by omega)) ?_
  show Ev X k_X9_strokeOf (5, [some (vi t), some (vi P), some (vi e), none], [vi (snapF t P)]) (S) _
  refine ev_n (fr' := (6, [some (vi t), some (vi P), some (vi e), none], [vi e, vi (snapF t P)])) (S' := S) 1 rfl ?_
  refine ev_add (z := (snapF t P) + e) rfl (by omega) (by omega) (by omega) ?_
  show Ev X k_X9_strokeOf (7, [some (vi t), some (vi P), some (vi e), none], [vi ((snapF t P) + e)]) (S) _
  refine ev_n (fr' := (10, [some (vi t), some (vi P), some (vi e), some (vi ((snapF t P) + e))], [vi 1, vi ((snapF t P) + e)])) (S' := S) 3 rfl ?_
  refine ev_ic (c := .ge) (off := 7) rfl (by decide) (fun (g1 : 1 ≤ (snapF t P) + e) => ?_) (fun (g1 : ¬ (1 ≤ (snapF t P) + e)) => ?_)
  · show Ev X k_X9_strokeOf (17, [some (vi t), some (vi P), some (vi e), some (vi ((snapF t P) + e))], []) (S) _
    refine ev_n (fr' := (18, [some (vi t), some (vi P), some (vi e), some (vi ((snapF t P) + e))], [vi ((snapF t P) + e)])) (S' := S) 1 rfl ?_
    refine ev_r rfl rfl rfl ?_
    exact ⟨congrArg (fun z => Sum.inl (some (vi z))) (by unfold strokeF; omega), rfl⟩
  · show Ev X k_X9_strokeOf (13, [some (vi t), some (vi P), some (vi e), some (vi ((snapF t P) + e))], []) (S) _
    refine ev_n (fr' := (18, [some (vi t), some (vi P), some (vi e), some (vi ((snapF t P) + e))], [vi 1])) (S' := S) 2 rfl ?_
    refine ev_r rfl rfl rfl ?_
    exact ⟨congrArg (fun z => Sum.inl (some (vi z))) (by unfold strokeF; omega), rfl⟩
def colM (f e : Int) : Int := if f < e then opI (· &&& ·) (opI fShl (-1) f) (opI fUsh (-1) (32 - e)) else 0
theorem bt_colM {f e : Int} (hf : 0 ≤ f) (he : e ≤ 32) {c : Nat} (hc : c < 32) : bt (colM f e) c = decide (f ≤ c ∧ c < e) := by
  unfold colM
  by_cases h : f < e
  · rw [if_pos h]
    obtain ⟨n, rfl⟩ : ∃ n : Nat, f = n := ⟨f.toNat, by omega⟩
    obtain ⟨m, hm⟩ : ∃ m : Nat, 32 - e = m := ⟨(32 - e).toNat, by omega⟩
    rw [hm, bt_and, bt_shl (by omega), bt_ush (by omega), bt_neg1, bt_neg1, Bool.eq_iff_iff]
    simp
    omega
  · rw [if_neg h, bt_zero]
    exact (decide_eq_false (by omega)).symm
theorem colM_rng (f e : Int) : in32 (colM f e) := by
  unfold colM; split
  · exact opI_rng _ _ _
  · exact ⟨by omega, by omega⟩
theorem sp_columnMask (X : AX) (S : AS) (f : Int) (e : Int) (h : 0 ≤ f ∧ e ≤ 32 ∧ f ≤ 1000 ∧ -1000 ≤ e) : Ev X k_X0_columnMask (0, [some (vi f), some (vi e)], []) (S) (fun o T => o = .inl (some (vi (colM f e))) ∧ T = S) := by
  refine ev_n (fr' := (2, [some (vi f), some (vi e)], [vi e, vi f])) (S' := S) 2 rfl ?_
  refine ev_ic (c := .lt) (off := 5) rfl (by decide) (fun (g1 : f < e) => ?_) (fun (g1 : ¬ (f < e)) => ?_)
  · show Ev X k_X0_columnMask (7, [some (vi f), some (vi e)], []) (S) _
    refine ev_n (fr' := (14, [some (vi f), some (vi e)], [vi e, vi 32, vi (-1), vi (opI fShl (-1) f)])) (S' := S) 6 rfl ?_
    refine ev_sub (z := 32 - e) rfl (by omega) (by omega) (by omega) ?_
    show Ev X k_X0_columnMask (15, [some (vi f), some (vi e)], [vi (32 - e), vi (-1), vi (opI fShl (-1) f)]) (S) _
    refine ev_n (fr' := (17, [some (vi f), some (vi e)], [vi (opI (· &&& ·) (opI fShl (-1) f) (opI fUsh (-1) (32 - e)))])) (S' := S) 2 rfl ?_
    refine ev_r rfl rfl rfl ?_
    exact ⟨congrArg (fun z => Sum.inl (some (vi z))) (by unfold colM; rw [if_pos g1]), rfl⟩
  · show Ev X k_X0_columnMask (5, [some (vi f), some (vi e)], []) (S) _
    refine ev_n (fr' := (6, [some (vi f), some (vi e)], [vi 0])) (S' := S) 1 rfl ?_
    refine ev_r rfl rfl rfl ?_
    exact ⟨congrArg (fun z => Sum.inl (some (vi z))) (by unfold colM; rw [if_neg g1]), rfl⟩
/-- pictures -/
def orN (f : Nat → Bool) : Nat → Bool
  | 0 => false
  | n + 1 => orN f n || f n
def areaB (l t r b P : Int) (y x : Nat) : Bool := decide (l ≤ (x : Int) ∧ (x : Int) < r ∧ t ≤ (y : Int) ∧ (y : Int) < b ∧ (x : Int) < P ∧ (y : Int) < P)
def boxB (l t r b s P : Int) (y x : Nat) : Bool := areaB l t (if l + s < r then l + s else r) b P y x || areaB (if l < r - s then r - s else l) t r b P y x || areaB l t r (if t + s < b then t + s else b) P y x || areaB l (if t < b - s then b - s else t) r b P y x
def alongF (k dist n : Int) : Int := if n ≤ 0 then 0 else (2 * k * dist + n) / (2 * n)
def absF (x : Int) : Int := if x < 0 then -x else x
def lineN (x0 y0 x1 y1 : Int) : Int := if absF (x1 - x0) < absF (y1 - y0) then absF (y1 - y0) else absF (x1 - x0)
def dotB (x0 y0 x1 y1 s P n : Int) (k : Nat) (y x : Nat) : Bool := areaB (x0 + alongF k (x1 - x0) n - (s - 1) / 2) (y0 + alongF k (y1 - y0) n - (s - 1) / 2) (x0 + alongF k (x1 - x0) n + s - (s - 1) / 2) (y0 + alongF k (y1 - y0) n + s - (s - 1) / 2) P y x
def lineB (x0 y0 x1 y1 s P : Int) (y x : Nat) : Bool := orN (fun k => dotB x0 y0 x1 y1 s P (lineN x0 y0 x1 y1) k y x) ((lineN x0 y0 x1 y1).toNat + 1)
def hiF (l v : Int) : Int := if l + 1 < v then v else l + 1
def shapeB (kd a b c d e dx dy P ex : Int) (y x : Nat) : Bool :=
  if kd = 2 then lineB (snapF (a + dx) P) (snapF (b + dy) P) (snapF (c + dx) P) (snapF (d + dy) P) (strokeF e P ex) P y x
  else if kd = 1 then boxB (snapF (a + dx) P) (snapF (b + dy) P) (hiF (snapF (a + dx) P) (snapF (a + dx + c) P)) (hiF (snapF (b + dy) P) (snapF (b + dy + d) P)) (strokeF e P ex) P y x
  else areaB (snapF (a + dx) P) (snapF (b + dy) P) (hiF (snapF (a + dx) P) (snapF (a + dx + c) P)) (hiF (snapF (b + dy) P) (snapF (b + dy + d) P)) P y x
/-- shape s of part p, moved -/
def shB (g : F1) (p : Nat) (dx dy P ex : Int) (s : Nat) (y x : Nat) : Bool := shapeB (g (37 * p + 6 * s + 13)) (g (37 * p + 6 * s + 14)) (g (37 * p + 6 * s + 15)) (g (37 * p + 6 * s + 16)) (g (37 * p + 6 * s + 17)) (g (37 * p + 6 * s + 18)) dx dy P ex y x
/-- use u of icon i -/
def useB (g : F1) (i : Nat) (P ex : Int) (u : Nat) (y x : Nat) : Bool := orN (fun s => shB g (g (19 * i + 3 * u + 310)).toNat (g (19 * i + 3 * u + 311)) (g (19 * i + 3 * u + 312)) P ex s y x) (g (37 * (g (19 * i + 3 * u + 310)).toNat + 12)).toNat
/-- icon i without use bu, without part bp -/
def icB (g : F1) (i : Nat) (bu bp P ex : Int) (u : Nat) (y x : Nat) : Bool := if (u : Int) = bu ∨ g (19 * i + 3 * u + 310) = bp then false else useB g i P ex u y x
def iconB (g : F1) (i : Nat) (bu bp P ex : Int) (y x : Nat) : Bool := orN (fun u => icB g i bu bp P ex u y x) (g (19 * i + 309)).toNat
/-- the class's drawing at cell d -/
def DR (I : F2) (d : Nat) (P e : Int) (D : Nat → Nat → Bool) : Prop := I d 1 = P ∧ I d 2 = e ∧ ∀ r, r < 32 → in32 (I (d + 1) r) ∧ ∀ c, c < 32 → bt (I (d + 1) r) c = D r c
def onlyD (d : Nat) (I I' : F2) : Prop := ∀ a, a ≠ d → a ≠ d + 1 → I' a = I a
theorem onlyD.refl (d : Nat) (I : F2) : onlyD d I I := fun _ _ _ => rfl
theorem onlyD.trans {d : Nat} {I I' I2 : F2} (h : onlyD d I I') (h2 : onlyD d I' I2) : onlyD d I I2 := fun a h3 h4 => (h2 a h3 h4).trans (h a h3 h4)
theorem DR.congr {I : F2} {d : Nat} {P e : Int} {D D' : Nat → Nat → Bool} (h : DR I d P e D) (q : ∀ y x, D y x = D' y x) : DR I d P e D' := ⟨h.1, h.2.1, fun r hr => ⟨(h.2.2 r hr).1, fun c hc => ((h.2.2 r hr).2 c hc).trans (q r c)⟩⟩
theorem onlyD.S {d : Nat} {I I' : F2} {b : Nat} {g : F1} (h : onlyD d I I') (hd : 126 ≤ d) (hb : b ≤ 100) (hS : SRep I b g) : SRep I' b g := by
  unfold SRep; rw [h (b + 1) (by omega) (by omega), h (b + 2) (by omega) (by omega), h (b + 3) (by omega) (by omega)]; exact hS
theorem onlyD.P {d : Nat} {I I' J : F2} {b : Nat} {g : F1} (h : onlyD d I I') (hd : 126 ≤ d) (hb : b ≤ 100) (hS : PRep I J b g) : PRep I' J b g := by
  unfold PRep; rw [h b (by omega) (by omega), h (b + 2) (by omega) (by omega), h (b + 3) (by omega) (by omega)]; exact hS
theorem onlyD.I {d : Nat} {I I' J : F2} {b : Nat} {g : F1} (h : onlyD d I I') (hd : 126 ≤ d) (hb : b ≤ 100) (hS : IRep I J b g) : IRep I' J b g := by
  unfold IRep; rw [h b (by omega) (by omega), h (b + 2) (by omega) (by omega), h (b + 3) (by omega) (by omega)]; exact hS
