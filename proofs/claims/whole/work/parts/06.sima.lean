/-! NUMBERS: an Int in range and its Int32, Int64 -/
theorem oi_w32 (z : Int) : Int32.ofInt (w32 z) = Int32.ofInt z := by unfold w32; exact Int32.ofInt_toInt _
theorem oi_ti (x : Int32) : Int32.ofInt x.toInt = x := Int32.ofInt_toInt x
theorem ol_ti (x : Int64) : Int64.ofInt x.toInt = x := Int64.ofInt_toInt x
theorem ol_w64 (z : Int) : Int64.ofInt (w64 z) = Int64.ofInt z := by unfold w64; exact Int64.ofInt_toInt _
theorem in32_ti (x : Int32) : in32 x.toInt := by
  have h1 := Int32.le_toInt x
  have h2 := Int32.toInt_lt x
  constructor <;> omega
theorem in64_ti (x : Int64) : in64 x.toInt := by
  have h1 := Int64.le_toInt x
  have h2 := Int64.toInt_lt x
  constructor <;> omega
theorem ti_oi {z : Int} (h : in32 z) : (Int32.ofInt z).toInt = z := Int32.toInt_ofInt_of_le (by have := h.1; omega) (by have := h.2; omega)
theorem ti_ol {z : Int} (h : in64 z) : (Int64.ofInt z).toInt = z := Int64.toInt_ofInt_of_le (by have := h.1; omega) (by have := h.2; omega)
theorem w32_of {z : Int} (h : in32 z) : w32 z = z := ti_oi h
theorem w64_of {z : Int} (h : in64 z) : w64 z = z := ti_ol h
theorem oi_add (x y : Int) : Int32.ofInt x + Int32.ofInt y = Int32.ofInt (w32 (x + y)) := by rw [oi_w32, Int32.ofInt_add]
theorem oi_sub (x y : Int) : Int32.ofInt x - Int32.ofInt y = Int32.ofInt (w32 (x - y)) := by rw [oi_w32, Int32.ofInt_sub]
theorem oi_mul (x y : Int) : Int32.ofInt x * Int32.ofInt y = Int32.ofInt (w32 (x * y)) := by rw [oi_w32, Int32.ofInt_mul]
theorem oi_neg (x : Int) : -Int32.ofInt x = Int32.ofInt (w32 (-x)) := by rw [oi_w32, Int32.ofInt_neg]
theorem ol_add (x y : Int) : Int64.ofInt x + Int64.ofInt y = Int64.ofInt (w64 (x + y)) := by rw [ol_w64, Int64.ofInt_add]
theorem ol_sub (x y : Int) : Int64.ofInt x - Int64.ofInt y = Int64.ofInt (w64 (x - y)) := by rw [ol_w64, Int64.ofInt_sub]
theorem ol_mul (x y : Int) : Int64.ofInt x * Int64.ofInt y = Int64.ofInt (w64 (x * y)) := by rw [ol_w64, Int64.ofInt_mul]
theorem oi_lt {x y : Int} (hx : in32 x) (hy : in32 y) : Int32.ofInt x < Int32.ofInt y ↔ x < y := by rw [Int32.lt_iff_toInt_lt, ti_oi hx, ti_oi hy]
theorem oi_le {x y : Int} (hx : in32 x) (hy : in32 y) : Int32.ofInt x ≤ Int32.ofInt y ↔ x ≤ y := by rw [Int32.le_iff_toInt_le, ti_oi hx, ti_oi hy]
theorem oi_eq {x y : Int} (hx : in32 x) (hy : in32 y) : Int32.ofInt x = Int32.ofInt y ↔ x = y := by rw [← Int32.toInt_inj, ti_oi hx, ti_oi hy]
theorem oi_0 : (0 : Int32) = Int32.ofInt 0 := rfl
theorem in32_0 : in32 0 := ⟨by decide, by decide⟩
theorem oi_i2l {x : Int} (h : in32 x) : (Int32.ofInt x).toInt64 = Int64.ofInt x := by
  apply Int64.toInt_inj.mp
  rw [Int32.toInt_toInt64, ti_oi h, ti_ol ⟨by have := h.1; omega, by have := h.2; omega⟩]
theorem oi_l2i (x : Int) : (Int64.ofInt x).toInt32 = Int32.ofInt (w32 x) := by
  rw [oi_w32]
  exact Int64.toInt32_ofInt
theorem oi_cmp {x y : Int} (hx : in64 x) (hy : in64 y) : lg_cmp (Int64.ofInt x) (Int64.ofInt y) = Int32.ofInt (lcmpI x y) := by
  unfold lg_cmp lcmpI
  simp only [gt_iff_lt, Int64.lt_iff_toInt_lt, ← Int64.toInt_inj, ti_ol hx, ti_ol hy]
  by_cases h1 : y < x
  · rw [if_pos h1, if_neg (by omega), if_neg (by omega)]; rfl
  · by_cases h2 : x = y
    · rw [if_neg h1, if_pos h2, if_neg (by omega), if_pos h2]; rfl
    · rw [if_neg h1, if_neg h2, if_pos (by omega)]; rfl
theorem in32_cmp (x y : Int) : in32 (lcmpI x y) := by
  unfold lcmpI
  split
  · decide
  · split <;> decide
theorem oi_clamp {i : Int} (h0 : 0 ≤ i) (h : in32 i) : (Int32.ofInt i).toNatClampNeg = i.toNat := by
  rw [← Int32.toNat_toInt, ti_oi h]
theorem oi_in {i : Int} {n : Nat} (h0 : 0 ≤ i) (h : i < n) (hi : in32 i) : vp_in (Int32.ofInt i) n := by
  intro q
  rcases q with q | q
  · rw [oi_0, oi_lt hi in32_0] at q; omega
  · rw [oi_clamp h0 hi] at q; omega
theorem oi_nat {n : Nat} (h : n ≤ 2147483647) : Int32.ofNat n = Int32.ofInt (n : Int) := (Int32.ofInt_eq_ofNat).symm
