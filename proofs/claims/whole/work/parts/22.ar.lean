/-! ARRAYS with a place that is no literal. -/
theorem ev_p {X : AX} {k pc : Nat} {L L' : ALs} {st st' : List AV} {S S' : AS} {I : Instr} {len : Nat} {ax : Nat × Nat × Nat} {Q : (Option AV ⊕ Nat) → AS → Prop} (hcd : cdAt k pc = some (I, len, ax)) (hst : stp X I ax L st S = some (L', st', S')) (he : Ev X k (pc + len, L', st') S' Q) : Ev X k (pc, L, st) S Q := by
  refine ev_1 ?_ he
  unfold sp1
  simp only [hcd, hst]
section ARR
variable {X : AX} {k pc : Nat} {L : ALs} {r : List AV} {S : AS} {ax : Nat × Nat × Nat} {Q : (Option AV ⊕ Nat) → AS → Prop} {a n : Nat} {i z : Int}
theorem ev_ia (hcd : cdAt k pc = some (.iaload, 1, ax)) (hl : (lay S)[a]? = some (1, n)) (h0 : 0 ≤ i) (h1 : i < n) (he : Ev X k (pc + 1, L, vi (gi S a i.toNat) :: r) S Q) : Ev X k (pc, L, vi i :: vr a :: r) S Q := by
  refine ev_p hcd ?_ he
  simp only [stp, rdA, hl]
  rw [if_pos ⟨trivial, h0, h1⟩]; rfl
theorem ev_ba (hcd : cdAt k pc = some (.baload, 1, ax)) (hl : (lay S)[a]? = some (3, n)) (h0 : 0 ≤ i) (h1 : i < n) (he : Ev X k (pc + 1, L, vi (gi S a i.toNat) :: r) S Q) : Ev X k (pc, L, vi i :: vr a :: r) S Q := by
  refine ev_p hcd ?_ he
  simp only [stp, rdA, hl]
  rw [if_pos ⟨trivial, h0, h1⟩]; rfl
theorem ev_la (hcd : cdAt k pc = some (.laload, 1, ax)) (hl : (lay S)[a]? = some (2, n)) (h0 : 0 ≤ i) (h1 : i < n) (he : Ev X k (pc + 1, L, vl (gl S a i.toNat) :: r) S Q) : Ev X k (pc, L, vi i :: vr a :: r) S Q := by
  refine ev_p hcd ?_ he
  simp only [stp, hl]
  rw [if_pos ⟨trivial, h0, h1⟩]
theorem ev_aa (hcd : cdAt k pc = some (.aaload, 1, ax)) (hl : (lay S)[a]? = some (4, n)) (h0 : 0 ≤ i) (h1 : i < n) (he : Ev X k (pc + 1, L, vq (gr S a i.toNat) :: r) S Q) : Ev X k (pc, L, vi i :: vr a :: r) S Q := by
  refine ev_p hcd ?_ he
  simp only [stp, hl]
  rw [if_pos ⟨trivial, h0, h1⟩]
theorem ev_ias (hcd : cdAt k pc = some (.iastore, 1, ax)) (hl : (lay S)[a]? = some (1, n)) (h0 : 0 ≤ i) (h1 : i < n) (he : Ev X k (pc + 1, L, r) (si S a i.toNat z) Q) : Ev X k (pc, L, vi z :: vi i :: vr a :: r) S Q := by
  refine ev_p hcd ?_ he
  simp only [stp, hl]
  rw [if_pos ⟨trivial, h0, h1⟩]
theorem ev_bas (hcd : cdAt k pc = some (.bastore, 1, ax)) (hl : (lay S)[a]? = some (3, n)) (h0 : 0 ≤ i) (h1 : i < n) (hz : z = 0 ∨ z = 1) (he : Ev X k (pc + 1, L, r) (si S a i.toNat z) Q) : Ev X k (pc, L, vi z :: vi i :: vr a :: r) S Q := by
  refine ev_p hcd ?_ he
  simp only [stp, hl]
  rw [if_pos ⟨trivial, h0, h1, hz⟩]
theorem ev_las (hcd : cdAt k pc = some (.lastore, 1, ax)) (hl : (lay S)[a]? = some (2, n)) (h0 : 0 ≤ i) (h1 : i < n) (he : Ev X k (pc + 1, L, r) (sl S a i.toNat z) Q) : Ev X k (pc, L, vl z :: vi i :: vr a :: r) S Q := by
  refine ev_p hcd ?_ he
  simp only [stp, hl]
  rw [if_pos ⟨trivial, h0, h1⟩]
/-- a read of the script -/
theorem ev_xs (hcd : cdAt k pc = some (.iaload, 1, ax)) (hl : (lay S)[xScr]? = none) (h0 : 0 ≤ i) (h1 : i < X.1) (he : Ev X k (pc + 1, L, vi (X.2 i.toNat) :: r) S Q) : Ev X k (pc, L, vi i :: vr xScr :: r) S Q := by
  refine ev_p hcd ?_ he
  simp only [stp, rdA, hl]
  rw [if_pos ⟨trivial, trivial, h0, h1⟩]; rfl
end ARR
theorem w32_id {z : Int} (h : in32 z) : w32 z = z := by
  unfold w32
  rw [Int32.toInt_ofInt]
  have h9 : ((Int32.size : Nat) : Int) = 4294967296 := rfl
  exact Int.bmod_eq_of_le (by rw [h9]; have := h.1; omega) (by rw [h9]; have := h.2; omega)
theorem w64_id {z : Int} (h : in64 z) : w64 z = z := by
  unfold w64
  rw [Int64.toInt_ofInt]
  have h9 : ((Int64.size : Nat) : Int) = 18446744073709551616 := rfl
  exact Int.bmod_eq_of_le (by rw [h9]; have := h.1; omega) (by rw [h9]; have := h.2; omega)
