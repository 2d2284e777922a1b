/-! BITS of ints, quotients, the snapped value, the count of bits. -/
def bt (z : Int) (c : Nat) : Bool := (BitVec.ofInt 32 z).getLsbD c
theorem ofInt_toInt32 (a : Int32) : BitVec.ofInt 32 a.toInt = a.toBitVec := by
  rw [← Int32.toInt_toBitVec, BitVec.ofInt_toInt]
theorem bt_toInt (a : Int32) (c : Nat) : bt a.toInt c = a.toBitVec.getLsbD c := by unfold bt; rw [ofInt_toInt32]
theorem toInt_rng (a : Int32) : in32 a.toInt := by
  have h1 := Int32.le_toInt a
  have h2 := Int32.toInt_lt a
  constructor <;> omega
theorem opI_rng (f : Int32 → Int32 → Int32) (x y : Int) : in32 (opI f x y) := toInt_rng _
theorem bt_and (x y : Int) (c : Nat) : bt (opI (· &&& ·) x y) c = (bt x c && bt y c) := by
  unfold opI; rw [bt_toInt]; simp [bt]
theorem bt_or (x y : Int) (c : Nat) : bt (opI (· ||| ·) x y) c = (bt x c || bt y c) := by
  unfold opI; rw [bt_toInt]; simp [bt]
theorem bt_xor (x y : Int) (c : Nat) : bt (opI (· ^^^ ·) x y) c = (bt x c ^^ bt y c) := by
  unfold opI; rw [bt_toInt]; simp [bt]
theorem sh_amt {n : Nat} (h : n < 32) : (Int32.ofInt (n : Int) &&& 31) = Int32.ofNat n := by
  have : ∀ k : Fin 32, (Int32.ofInt ((k.val : Nat) : Int) &&& 31) = Int32.ofNat k.val := by decide +kernel
  exact this ⟨n, h⟩
theorem shl_bv {n : Nat} (h : n < 32) (a : Int32) : (a <<< Int32.ofNat n).toBitVec = a.toBitVec <<< n := by
  rw [Int32.toBitVec_shiftLeft]
  have : ∀ k : Fin 32, ((Int32.ofNat k.val).toBitVec.smod 32).toNat = k.val := by decide +kernel
  have h2 := this ⟨n, h⟩
  rw [BitVec.shiftLeft_eq', h2]
theorem bt_shl {n : Nat} (h : n < 32) (x : Int) (c : Nat) : bt (opI fShl x n) c = (decide (c < 32) && !decide (c < n) && bt x (c - n)) := by
  unfold opI fShl; rw [bt_toInt, sh_amt h, shl_bv h, BitVec.getLsbD_shiftLeft]; simp [bt]
theorem ush_amt {n : Nat} (h : n < 32) : ((Int32.ofInt (n : Int)).toUInt32 &&& Int32.toUInt32 31) = UInt32.ofNat n := by
  have : ∀ k : Fin 32, ((Int32.ofInt ((k.val : Nat) : Int)).toUInt32 &&& Int32.toUInt32 31) = UInt32.ofNat k.val := by decide +kernel
  exact this ⟨n, h⟩
theorem ush_bv {n : Nat} (h : n < 32) (a : UInt32) : (a >>> UInt32.ofNat n).toBitVec = a.toBitVec >>> n := by
  rw [UInt32.toBitVec_shiftRight]
  have : ∀ k : Fin 32, ((UInt32.ofNat k.val).toBitVec % 32#32).toNat = k.val := by decide +kernel
  have h2 : ((UInt32.ofNat n).toBitVec % 32).toNat = n := this ⟨n, h⟩
  rw [BitVec.ushiftRight_eq', h2]
theorem bt_ush {n : Nat} (h : n < 32) (x : Int) (c : Nat) : bt (opI fUsh x n) c = bt x (n + c) := by
  unfold opI fUsh; rw [bt_toInt, ush_amt h]
  show ((Int32.ofInt x).toUInt32 >>> UInt32.ofNat n).toBitVec.getLsbD c = _
  rw [ush_bv h, BitVec.getLsbD_ushiftRight]; rfl
theorem bt_big (z : Int) {c : Nat} (h : 32 ≤ c) : bt z c = false := by unfold bt; exact BitVec.getLsbD_of_ge _ _ h
theorem bt_ext {x y : Int} (hx : in32 x) (hy : in32 y) (h : ∀ c, c < 32 → bt x c = bt y c) : x = y := by
  have h1 : BitVec.ofInt 32 x = BitVec.ofInt 32 y := BitVec.eq_of_getLsbD_eq (fun i hi => h i hi)
  have h2 := congrArg BitVec.toInt h1
  rw [BitVec.toInt_ofInt, BitVec.toInt_ofInt] at h2
  have e : ∀ z : Int, in32 z → z.bmod (2 ^ 32) = z := fun z hz => Int.bmod_eq_of_le (by have := hz.1; omega) (by have := hz.2; omega)
  rwa [e x hx, e y hy] at h2
theorem bt_zero (c : Nat) : bt 0 c = false := by simp [bt]
theorem bt_one (c : Nat) : bt 1 c = decide (c = 0) := by
  unfold bt
  rcases Nat.lt_or_ge c 32 with h | h
  · have : ∀ k : Fin 32, (BitVec.ofInt 32 1).getLsbD k.val = decide (k.val = 0) := by decide +kernel
    exact this ⟨c, h⟩
  · rw [BitVec.getLsbD_of_ge _ _ h]; exact (decide_eq_false (by omega)).symm
theorem bt_neg1 (c : Nat) : bt (-1) c = decide (c < 32) := by
  unfold bt
  rcases Nat.lt_or_ge c 32 with h | h
  · have : ∀ k : Fin 32, (BitVec.ofInt 32 (-1)).getLsbD k.val = decide (k.val < 32) := by decide +kernel
    exact this ⟨c, h⟩
  · rw [BitVec.getLsbD_of_ge _ _ h]; exact (decide_eq_false (by omega)).symm
theorem bt_eq0 {z : Int} (hz : in32 z) : z = 0 ↔ ∀ c, c < 32 → bt z c = false := by
  constructor
  · rintro rfl c _; exact bt_zero c
  · intro h; exact bt_ext hz ⟨by omega, by omega⟩ (fun c hc => by rw [h c hc, bt_zero])
/-- the lowest bit as a number -/
theorem and1 (z : Int) : opI (· &&& ·) z 1 = if bt z 0 then 1 else 0 := by
  by_cases h : bt z 0
  · rw [if_pos h]
    refine bt_ext (opI_rng _ _ _) ⟨by omega, by omega⟩ (fun c _ => ?_)
    rw [bt_and, bt_one]
    by_cases hc : c = 0
    · subst hc; simp [h]
    · simp [hc]
  · rw [if_neg h]
    refine bt_ext (opI_rng _ _ _) ⟨by omega, by omega⟩ (fun c _ => ?_)
    rw [bt_and, bt_one, bt_zero]
    by_cases hc : c = 0
    · subst hc; simp [h]
    · simp [hc]
theorem ush_and1 {n : Nat} (h : n < 32) (z : Int) : opI (· &&& ·) (opI fUsh z n) 1 = if bt z n then 1 else 0 := by
  rw [and1, bt_ush h]; rfl
theorem div_I {x y : Int} (hx : in32 x) (hy : in32 y) (h1 : y ≠ -1) : opI (· / ·) x y = x.tdiv y := by
  unfold opI
  have e : ∀ z : Int, in32 z → (Int32.ofInt z).toInt = z := fun z hz => by
    have := w32_id hz; unfold w32 at this; exact this
  rw [Int32.toInt_div_of_ne_right _ _ (fun q => h1 (by have := congrArg Int32.toInt q; rw [e y hy] at this; exact this)), e x hx, e y hy]
theorem xor_neg {x y : Int} (hx : in32 x) (hy : in32 y) (h : 0 < y) : (0 ≤ opI (· ^^^ ·) x y) ↔ 0 ≤ x := by
  have e : ∀ z : Int, in32 z → (0 ≤ z ↔ bt z 31 = false) := by
    intro z hz
    have h1 : (BitVec.ofInt 32 z).toInt = z := by rw [BitVec.toInt_ofInt]; exact Int.bmod_eq_of_le (by have := hz.1; omega) (by have := hz.2; omega)
    have h2 := BitVec.msb_eq_toInt (x := BitVec.ofInt 32 z)
    rw [h1] at h2
    have h3 : (BitVec.ofInt 32 z).msb = bt z 31 := BitVec.msb_eq_getLsbD_last _
    rw [← h3, h2]
    constructor
    · intro q; exact decide_eq_false (by omega)
    · intro q; have := of_decide_eq_false q; omega
  rw [e _ (opI_rng _ _ _), bt_xor, e x hx, (e y hy).mp (by omega)]
  simp
theorem tdiv_pos {x y : Int} (h : 0 < y) (hx : 0 ≤ x) : x.tdiv y = x / y := by rw [Int.tdiv_eq_ediv_of_nonneg hx]
theorem tdiv_neg {x y : Int} (h : 0 < y) (hx : x < 0) : x.tdiv y = if x.tdiv y * y = x then x / y else x / y + 1 := by
  have h1 := Int.tdiv_eq_ediv (a := x) (b := y)
  have h2 := Int.mul_ediv_add_emod x y
  have h3 := Int.emod_nonneg x (show y ≠ 0 by omega)
  have h4 := Int.emod_lt_of_pos x h
  have hs : y.sign = 1 := Int.sign_eq_one_of_pos h
  by_cases hd : y ∣ x
  · rw [if_pos (Or.inr hd)] at h1
    rw [h1, Int.add_zero, if_pos (Int.ediv_mul_cancel hd)]
  · rw [if_neg (by rintro (q | q); omega; exact hd q), hs] at h1
    rw [h1, if_neg]
    intro q
    exact hd ⟨x / y + 1, by rw [Int.mul_comm]; exact q.symm⟩
def snapF (u P : Int) : Int := (2 * u * P + 48) / 96
def strokeF (t P e : Int) : Int := if snapF t P + e < 1 then 1 else snapF t P + e
theorem mul_rng {u P a : Int} (h1 : -a ≤ u) (h2 : u ≤ a) (h3 : 0 ≤ P) (h4 : P ≤ 32) (ha : 0 ≤ a) : -(32 * a) ≤ u * P ∧ u * P ≤ 32 * a := by
  have e1 : u * P ≤ a * P := Int.mul_le_mul_of_nonneg_right h2 h3
  have e2 : -a * P ≤ u * P := Int.mul_le_mul_of_nonneg_right h1 h3
  have e3 : a * P ≤ a * 32 := Int.mul_le_mul_of_nonneg_left h4 ha
  rw [Int.neg_mul] at e2
  omega
theorem snapF_rng {u P : Int} (h1 : -200 ≤ u) (h2 : u ≤ 200) (h3 : 0 ≤ P) (h4 : P ≤ 32) : -134 ≤ snapF u P ∧ snapF u P ≤ 134 := by
  have h := mul_rng h1 h2 h3 h4 (by omega)
  have e : 2 * u * P = 2 * (u * P) := Int.mul_assoc 2 u P
  unfold snapF; rw [e]; omega
theorem strokeF_rng {t P e : Int} (h1 : -200 ≤ t) (h2 : t ≤ 200) (h3 : 0 ≤ P) (h4 : P ≤ 32) (h5 : -2 ≤ e) (h6 : e ≤ 2) : 1 ≤ strokeF t P e ∧ strokeF t P e ≤ 136 := by
  have h := snapF_rng h1 h2 h3 h4
  unfold strokeF; split <;> omega
