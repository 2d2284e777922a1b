/-! MEMORY STEPS. What the tables must say of an instruction at a method, by the kernel. -/
noncomputable def lkb (k : Nat) (I : Instr) (ax : Nat × Nat × Nat) : Bool := match I with
  | .ldc i => if ax.1 = 1 then CIk.any (fun q => decide (q.1 = mO k ∧ q.2.1 = i ∧ q.2.2.1 = ax.2.1)) else if ax.1 = 2 then SLk.any (fun q => decide (q.1 = mO k ∧ q.2.1 = i ∧ q.2.2 = ax.2.1)) else true
  | .ldc_w i => if ax.1 = 1 then CIk.any (fun q => decide (q.1 = mO k ∧ q.2.1 = i ∧ q.2.2.1 = ax.2.1)) else true
  | .ldc2_w i => CLLk.any (fun q => decide (q.1 = mO k ∧ q.2.1 = i ∧ q.2.2.1 = (if ax.1 = 1 then -(ax.2.1 : Int) else (ax.2.1 : Int))))
  | .getfield i => if ax.1 = 20 then decide (mO k = 13 ∧ ((ax.2.1 = 0 ∧ i = 9) ∨ (ax.2.1 = 1 ∧ i = 15))) else FLk.any (fun q => decide (q.1 = mO k ∧ q.2.1 = i ∧ q.2.2.1 = ax.1 ∧ q.2.2.2.1 = ax.2.1))
  | .putfield i => FLk.any (fun q => decide (q.1 = mO k ∧ q.2.1 = i ∧ q.2.2.1 = ax.1 ∧ q.2.2.2.1 = ax.2.1)) && (if (tX ax.1 ax.2.1).2.2.2 = true then decide (mG k = 2 ∧ (tX ax.1 ax.2.1).1 = cn (mO k)) else true) && decide (ax.2.2 = if (tX ax.1 ax.2.1).2.2.1 = "Z" then 1 else 0)
  | .new i => if ax.1 = 1 then CLk.any (fun q => decide (q.1 = mO k ∧ q.2.1 = i ∧ q.2.2.1 = ax.2.1)) else true
  | .anewarray i => ALk.any (fun q => decide (q.1 = mO k ∧ q.2.1 = i))
  | .getstatic i => decide ((ax.1 = 1 ∧ mO k = 8 ∧ i = 278) ∨ (ax.1 = 2 ∧ mO k = 13 ∧ i = 38) ∨ (ax.1 = 3 ∧ mO k = 13 ∧ i = 1053))
  | .invokestatic i =>
    if ax.1 = 2 then ML.any (fun q => decide (q.1 = mO k ∧ q.2.1 = i ∧ q.2.2.1 = ax.2.1)) && decide (mG ax.2.1 = 1 ∧ mH ax.2.1 = [] ∧ ax.2.2 = mA ax.2.1 ∧ mF ax.2.1 + 1 ≤ mF k ∧ 8 + (mL ax.2.1 + 11) + mLo ax.2.1 ≤ mLo k ∧ ax.2.1 < kN ∧ ax.2.1 ≠ kLaw)
    else if ax.1 = 3 then NLk.any (fun q => decide (q.1 = mO k ∧ q.2.1 = i ∧ q.2.2.1 = ax.2.1)) && decide (mG ax.2.1 = 1 ∧ mH ax.2.1 = [] ∧ ax.2.2 = mA ax.2.1 ∧ mF ax.2.1 + 1 ≤ mF k ∧ 8 + (mL ax.2.1 + 11) + mLo ax.2.1 ≤ mLo k ∧ ax.2.1 < kN ∧ ax.2.1 ≠ kLaw)
    else if ax.1 = 10 then ML.any (fun q => decide (q.1 = mO k ∧ q.2.1 = i ∧ q.2.2.1 = ax.2.1)) && decide (mG ax.2.1 = 1 ∧ mH ax.2.1 ≠ [] ∧ ax.2.2 = mA ax.2.1 ∧ mF ax.2.1 + 1 ≤ mF k ∧ 8 + (mL ax.2.1 + 11) + mLo ax.2.1 ≤ mLo k ∧ ax.2.1 < kN ∧ ax.2.1 ≠ kLaw)
    else if ax.1 = 0 then true
    else PLk.any (fun q => decide (q.1 = mO k ∧ q.2.1 = i)) && decide (1 ≤ mF k ∧ 40 ≤ mLo k)
  | .invokevirtual i =>
    if ax.1 = 1 then ML.any (fun q => decide (q.1 = mO k ∧ q.2.1 = i ∧ q.2.2.1 = ax.2.1)) && decide (mG ax.2.1 = 0 ∧ mH ax.2.1 = [] ∧ ax.2.2 = mA ax.2.1 ∧ mF ax.2.1 + 1 ≤ mF k ∧ 8 + (mL ax.2.1 + 11) + mLo ax.2.1 ≤ mLo k ∧ ax.2.1 < kN ∧ ax.2.1 ≠ kLaw)
    else true
  | .invokespecial i =>
    if ax.1 = 4 then ML.any (fun q => decide (q.1 = mO k ∧ q.2.1 = i ∧ q.2.2.1 = ax.2.1)) && decide (mG ax.2.1 = 2 ∧ mH ax.2.1 = [] ∧ mR ax.2.1 = none ∧ ax.2.2 = mA ax.2.1 ∧ mF ax.2.1 + 1 ≤ mF k ∧ 8 + (mL ax.2.1 + 11) + mLo ax.2.1 ≤ mLo k ∧ ax.2.1 < kN ∧ ax.2.1 ≠ kLaw)
    else if ax.1 = 7 then OLk.any (fun q => decide (q.1 = mO k ∧ q.2.1 = i)) && decide (1 ≤ mF k ∧ 20 ≤ mLo k)
    else true
  | .ireturn => decide ((ax.1 = 0 ∧ mR k = some .int) ∨ (ax.1 = 1 ∧ mR k = some .boolean) ∨ (ax.1 = 2 ∧ (mR k = some .char ∨ mR k = some .byte)))
  | .lreturn => decide (mR k = some .long)
  | .areturn => decide (mR k = some (.object "IconSetBuilder$IconSet"))
  | .return_ => decide (mR k = none)
  | _ => true
theorem any_dec {α : Type} {l : List α} {P : α → Prop} {h : ∀ q, Decidable (P q)} (q : l.any (fun q => @decide (P q) (h q)) = true) : ∃ x ∈ l, P x := by
  obtain ⟨x, h1, h2⟩ := List.any_eq_true.mp q
  exact ⟨x, h1, of_decide_eq_true h2⟩
theorem PW_hts {args : Array Value} {s : State} (hts : ∀ w ∈ PW, w.before args s = true) {p : Nat} {w : Cond} (h : inT p w = true) : w.before args s = true := hts w (inT_mem h)
theorem FL_get {o i ci k : Nat} (h : FLk.any (fun q => decide (q.1 = o ∧ q.2.1 = i ∧ q.2.2.1 = ci ∧ q.2.2.2.1 = k)) = true) : ci < 10 ∧ k < tN ci ∧ Cond.fieldLink (cn o) i (tX ci k).1 (tX ci k).2.1 (tX ci k).2.2.1 ∈ PW := by
  obtain ⟨⟨o', i', ci', k', p⟩, h1, rfl, rfl, rfl, rfl⟩ := any_dec h
  have h2 := List.all_eq_true.mp FL_ok _ h1
  rw [Bool.and_eq_true, decide_eq_true_eq] at h2
  exact ⟨h2.2.1, h2.2.2, inT_mem h2.1⟩
theorem ft_get {ci k t : Nat} (h : ci < 10) (hk : k < tN ci) (ht : (FT.getD ci [])[k]? = some t) : (FT.getD ci []).length = tN ci ∧ tagTy t (if (tX ci k).2.2.1 = "Z" then 1 else 0) (tY ci k) = true := by
  have h1 := List.all_eq_true.mp ft_ok ci (List.mem_range.mpr h)
  rw [Bool.and_eq_true, decide_eq_true_eq] at h1
  refine ⟨h1.1, ?_⟩
  have h2 := List.all_eq_true.mp h1.2 k (List.mem_range.mpr hk)
  rw [List.getD_eq_getElem?_getD, ht] at h2
  exact h2
theorem tag0 {z : Nat} {ty : FieldType} (h : tagTy 0 z ty = true) : (ty = .int ∧ z = 0) ∨ (ty = .boolean ∧ z = 1) := by
  cases ty <;> simp_all [tagTy]
theorem tag1 {z : Nat} {ty : FieldType} (h : tagTy 1 z ty = true) : ty = .long := by
  cases ty <;> simp_all [tagTy]
theorem tag2 {z : Nat} {ty : FieldType} (h : tagTy 2 z ty = true) : (∃ n, ty = .object n) ∨ ∃ n, ty = .array n := by
  cases ty <;> simp_all [tagTy]
theorem nar01 {z : Int} (h : z = 0 ∨ z = 1) : narrow .boolean (.int (Int32.ofInt z)) = .int (Int32.ofInt z) ∧ fits .boolean (.int (Int32.ofInt z)) = true ∧ vp_nar .boolean (Int32.ofInt z) = Int32.ofInt z := by
  rcases h with rfl | rfl <;> exact ⟨rfl, rfl, rfl⟩
section SIMB
variable {p : Program} {l : Launch} {e : Env} {R : Room} {s : State} {m : MethodId} {args : Array Value} {below : List Frame} {meth : Method} {c : Code} {H : Heap} {locs : List Loc} {cells slots : Nat} {Q : State → Prop}
variable {D : va_G} {cI cL cZ cQ : ClassId} {adX ad : Nat → Nat} {X : AX} {k pc len : Nat} {A : Nat → Prop} {I : Instr} {ax : Nat × Nat × Nat} {L L' : ALs} {st st' : List AV} {S S' : AS} {ls : Array Slot} {sv : List Value}
theorem Mx_si (hM : Mx D cI cL cZ cQ adX ad S A s.heap H locs) {a j : Nat} {z : Int} {H1 : Heap} {locs1 : List Loc} (hz : in32 z) (h1 : va_P D vwCl (wsOf cI cL cZ cQ ad (si S a j z)) H1) (h2 : va_D A (wsOf cI cL cZ cQ ad (si S a j z))) (h3 : va_S A s.heap H1 locs1) : Mx D cI cL cZ cQ adX ad (si S a j z) A s.heap H1 locs1 :=
  ⟨h1, h2, h3, up2_in hM.2.2.2.1 hz, hM.2.2.2.2.1, hM.2.2.2.2.2.1, hM.2.2.2.2.2.2.1, hM.2.2.2.2.2.2.2⟩
theorem Mx_sl (hM : Mx D cI cL cZ cQ adX ad S A s.heap H locs) {a j : Nat} {z : Int} {H1 : Heap} {locs1 : List Loc} (hz : in64 z) (h1 : va_P D vwCl (wsOf cI cL cZ cQ ad (sl S a j z)) H1) (h2 : va_D A (wsOf cI cL cZ cQ ad (sl S a j z))) (h3 : va_S A s.heap H1 locs1) : Mx D cI cL cZ cQ adX ad (sl S a j z) A s.heap H1 locs1 :=
  ⟨h1, h2, h3, hM.2.2.2.1, up2_in hM.2.2.2.2.1 hz, hM.2.2.2.2.2.1, hM.2.2.2.2.2.2.1, hM.2.2.2.2.2.2.2⟩
theorem Mx_sr (hM : Mx D cI cL cZ cQ adX ad S A s.heap H locs) {a j b : Nat} {H1 : Heap} {locs1 : List Loc} (hb : b < (lay S).length) (h1 : va_P D vwCl (wsOf cI cL cZ cQ ad (sr S a j (some b))) H1) (h2 : va_D A (wsOf cI cL cZ cQ ad (sr S a j (some b)))) (h3 : va_S A s.heap H1 locs1) : Mx D cI cL cZ cQ adX ad (sr S a j (some b)) A s.heap H1 locs1 := by
  refine ⟨h1, h2, h3, hM.2.2.2.1, hM.2.2.2.2.1, fun x y z hz => ?_, hM.2.2.2.2.2.2.1, hM.2.2.2.2.2.2.2⟩
  simp only [gr, sr, up2] at hz
  split at hz
  · split at hz
    · cases hz; exact hb
    · exact hM.2.2.2.2.2.1 _ _ _ hz
  · exact hM.2.2.2.2.2.1 _ _ _ hz
end SIMB
