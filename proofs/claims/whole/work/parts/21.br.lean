/-! BRANCHES. -/
def cP (c : Jvm.ClassFile.Cond) (x y : Int) : Prop := match c with
  | .eq => x = y
  | .ne => x ≠ y
  | .lt => x < y
  | .ge => y ≤ x
  | .gt => y < x
  | .le => x ≤ y
theorem cHold_P (c : Jvm.ClassFile.Cond) (x y : Int) : cHold c x y = true ↔ cP c x y := by cases c <;> exact decide_eq_true_iff
theorem ev_if {X : AX} {k pc : Nat} {c : Jvm.ClassFile.Cond} {off : Int} {ax : Nat × Nat × Nat} {L : ALs} {x : Int} {r : List AV} {S : AS} {Q : (Option AV ⊕ Nat) → AS → Prop} (hcd : cdAt k pc = some (.ifCond c off, 3, ax)) (h0 : 0 ≤ (pc : Int) + off)
    (ht : cP c x 0 → Ev X k (tgt pc off, L, r) S Q) (hf : ¬ cP c x 0 → Ev X k (pc + 3, L, r) S Q) : Ev X k (pc, L, vi x :: r) S Q := by
  have hst : stp X (.ifCond c off) ax L (vi x :: r) S = none := rfl
  by_cases h : cP c x 0
  · refine ev_1 ?_ (ht h)
    unfold sp1; simp only [hcd]; rw [hst]
    have : ctl (.ifCond c off) 3 ax (pc, L, vi x :: r) S = some (.inl ((tgt pc off, L, r), S)) := by
      show (if 0 ≤ (pc : Int) + off then (if cHold c x 0 = true then some (.inl ((tgt pc off, L, r), S)) else some (.inl ((pc + 3, L, r), S))) else none : Option AR) = _
      rw [if_pos h0, if_pos ((cHold_P c x 0).mpr h)]
    simp only [this]
  · refine ev_1 ?_ (hf h)
    unfold sp1; simp only [hcd]; rw [hst]
    have : ctl (.ifCond c off) 3 ax (pc, L, vi x :: r) S = some (.inl ((pc + 3, L, r), S)) := by
      show (if 0 ≤ (pc : Int) + off then (if cHold c x 0 = true then some (.inl ((tgt pc off, L, r), S)) else some (.inl ((pc + 3, L, r), S))) else none : Option AR) = _
      rw [if_pos h0, if_neg (fun q => h ((cHold_P c x 0).mp q))]
    simp only [this]
theorem ev_ic {X : AX} {k pc : Nat} {c : Jvm.ClassFile.Cond} {off : Int} {ax : Nat × Nat × Nat} {L : ALs} {x y : Int} {r : List AV} {S : AS} {Q : (Option AV ⊕ Nat) → AS → Prop} (hcd : cdAt k pc = some (.if_icmp c off, 3, ax)) (h0 : 0 ≤ (pc : Int) + off)
    (ht : cP c x y → Ev X k (tgt pc off, L, r) S Q) (hf : ¬ cP c x y → Ev X k (pc + 3, L, r) S Q) : Ev X k (pc, L, vi y :: vi x :: r) S Q := by
  have hst : stp X (.if_icmp c off) ax L (vi y :: vi x :: r) S = none := rfl
  by_cases h : cP c x y
  · refine ev_1 ?_ (ht h)
    unfold sp1; simp only [hcd]; rw [hst]
    have : ctl (.if_icmp c off) 3 ax (pc, L, vi y :: vi x :: r) S = some (.inl ((tgt pc off, L, r), S)) := by
      show (if 0 ≤ (pc : Int) + off then (if cHold c x y = true then some (.inl ((tgt pc off, L, r), S)) else some (.inl ((pc + 3, L, r), S))) else none : Option AR) = _
      rw [if_pos h0, if_pos ((cHold_P c x y).mpr h)]
    simp only [this]
  · refine ev_1 ?_ (hf h)
    unfold sp1; simp only [hcd]; rw [hst]
    have : ctl (.if_icmp c off) 3 ax (pc, L, vi y :: vi x :: r) S = some (.inl ((pc + 3, L, r), S)) := by
      show (if 0 ≤ (pc : Int) + off then (if cHold c x y = true then some (.inl ((tgt pc off, L, r), S)) else some (.inl ((pc + 3, L, r), S))) else none : Option AR) = _
      rw [if_pos h0, if_neg (fun q => h ((cHold_P c x y).mp q))]
    simp only [this]
theorem lcmp_P (c : Jvm.ClassFile.Cond) (x y : Int) : cP c (if x < y then -1 else if x = y then 0 else 1) 0 ↔ cP c x y := by
  cases c <;> simp only [cP] <;> split <;> (try split) <;> omega
/-- lcmp and the branch behind it -/
theorem ev_lc {X : AX} {k pc : Nat} {c : Jvm.ClassFile.Cond} {off : Int} {ax ax2 : Nat × Nat × Nat} {L : ALs} {x y : Int} {r : List AV} {S : AS} {Q : (Option AV ⊕ Nat) → AS → Prop} (hcd : cdAt k pc = some (.lcmp, 1, ax)) (hcd2 : cdAt k (pc + 1) = some (.ifCond c off, 3, ax2)) (h0 : 0 ≤ ((pc + 1 : Nat) : Int) + off)
    (ht : cP c x y → Ev X k (tgt (pc + 1) off, L, r) S Q) (hf : ¬ cP c x y → Ev X k (pc + 1 + 3, L, r) S Q) : Ev X k (pc, L, vl y :: vl x :: r) S Q := by
  refine ev_1 (fr' := (pc + 1, L, vi (if x < y then -1 else if x = y then 0 else 1) :: r)) (S' := S) (by unfold sp1; simp only [hcd]; rfl) ?_
  exact ev_if hcd2 h0 (fun h => ht ((lcmp_P c x y).mp h)) (fun h => hf (fun q => h ((lcmp_P c x y).mpr q)))
