/-! THE COUNT OF BITS: Integer.bitCount. -/
def uN32 (z : Int) : Nat := (z % 4294967296).toNat
theorem u_bv (z : Int) : (BitVec.ofInt 32 z).toNat = uN32 z := by
  rw [BitVec.toNat_ofInt]; rfl
theorem u_lt (z : Int) : uN32 z < 4294967296 := by unfold uN32; omega
theorem u_toInt (a : Int32) : uN32 a.toInt = a.toBitVec.toNat := by rw [← u_bv, ofInt_toInt32]
theorem u_and (x y : Int) : uN32 (opI (· &&& ·) x y) = uN32 x &&& uN32 y := by
  unfold opI; rw [u_toInt, ← u_bv, ← u_bv]; simp
theorem u_ush {n : Nat} (h : n < 32) (x : Int) : uN32 (opI fUsh x n) = uN32 x / 2 ^ n := by
  unfold opI fUsh; rw [u_toInt, ush_amt h]
  show ((Int32.ofInt x).toUInt32 >>> UInt32.ofNat n).toBitVec.toNat = _
  rw [ush_bv h, BitVec.toNat_ushiftRight, Nat.shiftRight_eq_div_pow, ← u_bv]; rfl
theorem u_w32 (z : Int) : uN32 (w32 z) = uN32 z := by
  unfold w32; rw [u_toInt, ← u_bv]; simp
theorem a8 {A B C D : Nat} (hA : A < 256) (hC : C < 256) : (256 * B + A) &&& (256 * D + C) = 256 * (B &&& D) + (A &&& C) := by
  have e : (256 : Nat) = 2 ^ 8 := by decide
  have hAC : A &&& C < 2 ^ 8 := Nat.and_lt_two_pow A (by omega)
  apply Nat.eq_of_testBit_eq
  intro i
  rw [Nat.testBit_and, e, Nat.testBit_two_pow_mul_add _ (by omega), Nat.testBit_two_pow_mul_add _ (by omega), Nat.testBit_two_pow_mul_add _ hAC]
  by_cases h : i < 8
  · simp only [if_pos h, Nat.testBit_and]
  · simp only [if_neg h, Nat.testBit_and]
theorem by1 {m B M : Nat} (hB : B < 256) : ((256 * m + B) / 2) &&& (256 * M + 85) = 256 * ((m / 2) &&& M) + (B / 2 &&& 85) := by
  have d : ∀ b : Fin 256, ∀ e : Fin 2, (b.val / 2 + 128 * e.val) &&& 85 = b.val / 2 &&& 85 := by decide +kernel
  have h : (256 * m + B) / 2 = 256 * (m / 2) + (B / 2 + 128 * (m % 2)) := by omega
  rw [h, a8 (by omega) (by omega)]
  have := d ⟨B, hB⟩ ⟨m % 2, by omega⟩
  simp only at this
  rw [this]
theorem by2 {m B M : Nat} (hB : B < 256) : ((256 * m + B) / 4) &&& (256 * M + 51) = 256 * ((m / 4) &&& M) + (B / 4 &&& 51) := by
  have d : ∀ b : Fin 256, ∀ e : Fin 4, (b.val / 4 + 64 * e.val) &&& 51 = b.val / 4 &&& 51 := by decide +kernel
  have h : (256 * m + B) / 4 = 256 * (m / 4) + (B / 4 + 64 * (m % 4)) := by omega
  rw [h, a8 (by omega) (by omega)]
  have := d ⟨B, hB⟩ ⟨m % 4, by omega⟩
  simp only at this
  rw [this]
theorem by3 {m B M : Nat} (hB : B ≤ 68) (hm : m % 16 ≤ 4) : ((256 * m + B) + (256 * m + B) / 16) &&& (256 * M + 15) = 256 * ((m + m / 16) &&& M) + ((B + B / 16) &&& 15) := by
  have d : ∀ b : Fin 69, ∀ e : Fin 5, (b.val + b.val / 16 + 16 * e.val) &&& 15 = (b.val + b.val / 16) &&& 15 := by decide +kernel
  have h : (256 * m + B) + (256 * m + B) / 16 = 256 * (m + m / 16) + (B + B / 16 + 16 * (m % 16)) := by omega
  rw [h, a8 (by omega) (by omega)]
  have := d ⟨B, by omega⟩ ⟨m % 16, by omega⟩
  simp only at this
  rw [this]
def p1 (B : Nat) : Nat := B - (B / 2 &&& 85)
def p2 (C : Nat) : Nat := (C &&& 51) + (C / 4 &&& 51)
def p3 (D : Nat) : Nat := (D + D / 16) &&& 15
def pcB (B : Nat) : Nat := (B.testBit 0).toNat + (B.testBit 1).toNat + (B.testBit 2).toNat + (B.testBit 3).toNat + (B.testBit 4).toNat + (B.testBit 5).toNat + (B.testBit 6).toNat + (B.testBit 7).toNat
theorem p_all : ∀ b : Fin 256, (b.val / 2 &&& 85) ≤ b.val ∧ p1 b.val < 256 ∧ p2 (p1 b.val) ≤ 68 ∧ p2 (p1 b.val) % 16 ≤ 4 ∧ p3 (p2 (p1 b.val)) = pcB b.val ∧ pcB b.val ≤ 8 := by decide +kernel
theorem popNat {B0 B1 B2 B3 : Nat} (h0 : B0 < 256) (h1 : B1 < 256) (h2 : B2 < 256) (h3 : B3 < 256) :
    ∃ e1 e2 e3 : Nat, (256 * (256 * (256 * B3 + B2) + B1) + B0) - ((256 * (256 * (256 * B3 + B2) + B1) + B0) / 2 &&& 1431655765) = e1 ∧ ((256 * (256 * (256 * B3 + B2) + B1) + B0) / 2 &&& 1431655765) ≤ (256 * (256 * (256 * B3 + B2) + B1) + B0) ∧ e1 < 4294967296 ∧ (e1 &&& 858993459) + (e1 / 4 &&& 858993459) = e2 ∧ e2 < 4294967296 / 2 ∧ (e2 + e2 / 16) &&& 252645135 = e3 ∧ e2 + e2 / 16 < 4294967296 ∧ e3 < 4294967296 / 8 ∧ (e3 + e3 / 256 + (e3 + e3 / 256) / 65536) % 64 = pcB B0 + pcB B1 + pcB B2 + pcB B3 := by
  obtain ⟨a0, b0, c0, d0, f0, g0⟩ := p_all ⟨B0, h0⟩
  obtain ⟨a1, b1, c1, d1, f1, g1⟩ := p_all ⟨B1, h1⟩
  obtain ⟨a2, b2, c2, d2, f2, g2⟩ := p_all ⟨B2, h2⟩
  obtain ⟨a3, b3, c3, d3, f3, g3⟩ := p_all ⟨B3, h3⟩
  simp only at a0 b0 c0 d0 f0 g0 a1 b1 c1 d1 f1 g1 a2 b2 c2 d2 f2 g2 a3 b3 c3 d3 f3 g3
  have m1 : ((256 * (256 * (256 * B3 + B2) + B1) + B0) / 2 &&& 1431655765) = 256 * (256 * (256 * (B3 / 2 &&& 85) + (B2 / 2 &&& 85)) + (B1 / 2 &&& 85)) + (B0 / 2 &&& 85) := by
    rw [show (1431655765 : Nat) = 256 * (256 * (256 * 85 + 85) + 85) + 85 by decide, by1 h0, by1 h1, by1 h2]
  refine ⟨256 * (256 * (256 * p1 B3 + p1 B2) + p1 B1) + p1 B0, 256 * (256 * (256 * p2 (p1 B3) + p2 (p1 B2)) + p2 (p1 B1)) + p2 (p1 B0), 256 * (256 * (256 * pcB B3 + pcB B2) + pcB B1) + pcB B0, ?_, ?_, ?_, ?_, ?_, ?_, ?_, ?_, ?_⟩
  · rw [m1]; unfold p1; omega
  · rw [m1]; omega
  · omega
  · rw [show (858993459 : Nat) = 256 * (256 * (256 * 51 + 51) + 51) + 51 by decide, by2 b0, by2 b1, by2 b2, a8 b0 (by omega), a8 b1 (by omega), a8 b2 (by omega)]
    unfold p2; omega
  · omega
  · rw [show (252645135 : Nat) = 256 * (256 * (256 * 15 + 15) + 15) + 15 by decide, by3 c0 (by omega), by3 c1 (by omega), by3 c2 (by omega)]
    rw [← f0, ← f1, ← f2, ← f3]; rfl
  · omega
  · omega
  · have r1 : (256 * (256 * (256 * pcB B3 + pcB B2) + pcB B1) + pcB B0) / 256 = 256 * (256 * pcB B3 + pcB B2) + pcB B1 := by omega
    rw [r1]
    have r2 : (256 * (256 * (256 * pcB B3 + pcB B2) + pcB B1) + pcB B0 + (256 * (256 * pcB B3 + pcB B2) + pcB B1)) / 65536 = 256 * pcB B3 + (pcB B2 + pcB B3) := by omega
    rw [r2]
    omega
/-- the value that bitCount's code makes -/
def pop1 (z : Int) : Int := w32 (z - opI (· &&& ·) (opI fUsh z 1) 1431655765)
def pop2 (z : Int) : Int := w32 (opI (· &&& ·) z 858993459 + opI (· &&& ·) (opI fUsh z 2) 858993459)
def pop3 (z : Int) : Int := opI (· &&& ·) (w32 (z + opI fUsh z 4)) 252645135
def pop4 (z : Int) : Int := w32 (z + opI fUsh z 8)
def pop5 (z : Int) : Int := w32 (z + opI fUsh z 16)
def popZ (z : Int) : Int := opI (· &&& ·) (pop5 (pop4 (pop3 (pop2 (pop1 z))))) 63
def popF (z : Int) : Int := sumF (fun c => if bt z c then 1 else 0) 32
theorem u_add (x y : Int) : uN32 (x + y) = (uN32 x + uN32 y) % 4294967296 := by unfold uN32; omega
theorem u_sub {x y : Int} (h : uN32 y ≤ uN32 x) : uN32 (x - y) = uN32 x - uN32 y := by unfold uN32 at *; omega
theorem bt_u (z : Int) (c : Nat) : bt z c = (uN32 z).testBit c := by unfold bt; rw [← u_bv]; rfl
theorem bt_byte (z : Int) (j i : Nat) (hi : i < 8) : (uN32 z / 2 ^ (8 * j) % 256).testBit i = bt z (8 * j + i) := by
  rw [bt_u, show (256 : Nat) = 2 ^ 8 by decide, Nat.testBit_mod_two_pow, Nat.testBit_div_two_pow, decide_eq_true hi, Bool.true_and, Nat.add_comm]
theorem pcB_byte (z : Int) (j : Nat) : pcB (uN32 z / 2 ^ (8 * j) % 256) = (bt z (8 * j + 0)).toNat + (bt z (8 * j + 1)).toNat + (bt z (8 * j + 2)).toNat + (bt z (8 * j + 3)).toNat + (bt z (8 * j + 4)).toNat + (bt z (8 * j + 5)).toNat + (bt z (8 * j + 6)).toNat + (bt z (8 * j + 7)).toNat := by
  unfold pcB
  rw [bt_byte z j 0 (by omega), bt_byte z j 1 (by omega), bt_byte z j 2 (by omega), bt_byte z j 3 (by omega), bt_byte z j 4 (by omega), bt_byte z j 5 (by omega), bt_byte z j 6 (by omega), bt_byte z j 7 (by omega)]
theorem ite_toNat (b : Bool) : (if b = true then (1 : Int) else 0) = (b.toNat : Int) := by cases b <;> rfl
theorem popZ_eq (z : Int) : popZ z = popF z := by
  have hn := u_lt z
  obtain ⟨e1, e2, e3, h1, h1b, h1c, h2, h2b, h3, h3b, h3c, h4⟩ := popNat (B0 := uN32 z / 2 ^ (8 * 0) % 256) (B1 := uN32 z / 2 ^ (8 * 1) % 256) (B2 := uN32 z / 2 ^ (8 * 2) % 256) (B3 := uN32 z / 2 ^ (8 * 3) % 256) (by omega) (by omega) (by omega) (by omega)
  have hz : 256 * (256 * (256 * (uN32 z / 2 ^ (8 * 3) % 256) + uN32 z / 2 ^ (8 * 2) % 256) + uN32 z / 2 ^ (8 * 1) % 256) + uN32 z / 2 ^ (8 * 0) % 256 = uN32 z := by
    simp only [Nat.reduceMul, Nat.reducePow]; omega
  rw [hz] at h1 h1b
  have q1 : uN32 (pop1 z) = e1 := by
    unfold pop1
    have : uN32 (opI (· &&& ·) (opI fUsh z 1) 1431655765) = uN32 z / 2 &&& 1431655765 := by
      rw [u_and, show (1 : Int) = ((1 : Nat) : Int) from rfl, u_ush (by omega)]; rfl
    rw [u_w32, u_sub (by rw [this]; exact h1b), this, h1]
  have q2 : uN32 (pop2 (pop1 z)) = e2 := by
    unfold pop2
    have : uN32 (opI (· &&& ·) (opI fUsh (pop1 z) 2) 858993459) = e1 / 4 &&& 858993459 := by
      rw [u_and, show (2 : Int) = ((2 : Nat) : Int) from rfl, u_ush (by omega), q1]; rfl
    rw [u_w32, u_add, this, u_and, q1, show uN32 858993459 = 858993459 from rfl, h2]; omega
  have q3 : uN32 (pop3 (pop2 (pop1 z))) = e3 := by
    unfold pop3
    rw [u_and, u_w32, u_add, show (4 : Int) = ((4 : Nat) : Int) from rfl, u_ush (by omega), q2, show uN32 252645135 = 252645135 from rfl, show 2 ^ 4 = 16 from rfl, Nat.mod_eq_of_lt h3b, h3]
  have q4 : uN32 (pop4 (pop3 (pop2 (pop1 z)))) = e3 + e3 / 256 := by
    unfold pop4
    rw [u_w32, u_add, show (8 : Int) = ((8 : Nat) : Int) from rfl, u_ush (by omega), q3, show 2 ^ 8 = 256 from rfl]; omega
  have q5 : uN32 (pop5 (pop4 (pop3 (pop2 (pop1 z))))) = e3 + e3 / 256 + (e3 + e3 / 256) / 65536 := by
    unfold pop5
    rw [u_w32, u_add, show (16 : Int) = ((16 : Nat) : Int) from rfl, u_ush (by omega), q4, show 2 ^ 16 = 65536 from rfl]; omega
  have q6 : uN32 (popZ z) = (e3 + e3 / 256 + (e3 + e3 / 256) / 65536) % 64 := by
    unfold popZ
    rw [u_and, q5, show uN32 63 = 2 ^ 6 - 1 from rfl, Nat.and_two_pow_sub_one_eq_mod]
  have r := opI_rng (· &&& ·) (pop5 (pop4 (pop3 (pop2 (pop1 z))))) 63
  have e : popZ z = (uN32 (popZ z) : Int) := by
    have h9 : uN32 (popZ z) < 64 := by rw [q6]; omega
    have r2 : in32 (popZ z) := r
    unfold uN32 at h9 ⊢
    have := r2.1; have := r2.2
    omega
  rw [e, q6, h4]
  rw [pcB_byte, pcB_byte, pcB_byte, pcB_byte]
  unfold popF
  simp only [sumF, ite_toNat, Nat.reduceMul, Nat.reduceAdd, Nat.zero_add, Nat.add_zero]
  omega
