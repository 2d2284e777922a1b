/-! RETURNS of booleans, chars, bytes. -/
theorem rt_1 {z : Int} {len a b pc : Nat} {L : ALs} {S : AS} (h : z = 0 ∨ z = 1) : ctl .ireturn len (1, a, b) (pc, L, [vi z]) S = some (.inr (.inr (.inl (some (vi z)), S))) := by
  simp only [ctl]
  rw [if_pos (by omega)]
theorem rt_2 {z : Int} {len a b pc : Nat} {L : ALs} {S : AS} (h : 0 ≤ z ∧ z ≤ 127) : ctl .ireturn len (2, a, b) (pc, L, [vi z]) S = some (.inr (.inr (.inl (some (vi z)), S))) := by
  simp only [ctl]
  exact if_pos (Or.inr (Or.inr (Or.inr ⟨trivial, h⟩)))
