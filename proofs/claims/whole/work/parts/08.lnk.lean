/-! LINKS: the words behind the tables' numbers, by their places -/
noncomputable def inT (p : Nat) (w : Cond) : Bool := decide (lw_tbl[p]? = some w) && pw w
theorem inT_mem {p : Nat} {w : Cond} (h : inT p w = true) : w ∈ PW := by
  unfold inT at h
  rw [Bool.and_eq_true, decide_eq_true_eq] at h
  exact List.mem_filter.mpr ⟨List.mem_of_getElem? h.1, h.2⟩
noncomputable def tX (ci : Nat) : u_T := TXs.getD ci TX0
noncomputable def tN (ci : Nat) : Nat := TXn.getD ci 0
noncomputable def tY (ci : Nat) : Nat → FieldType := tyXs.getD ci tyX0
theorem cl_get : ∀ ci, ci < 10 → vwCl[ci]? = some (cn ci, tX ci, tN ci) := by
  intro ci h
  match ci, h with
  | 0, _ => rfl
  | 1, _ => rfl
  | 2, _ => rfl
  | 3, _ => rfl
  | 4, _ => rfl
  | 5, _ => rfl
  | 6, _ => rfl
  | 7, _ => rfl
  | 8, _ => rfl
  | 9, _ => rfl
  | n + 10, h => exact absurd h (by omega)
theorem cl_ty : ∀ ci, ci < 10 → ∀ k, k < tN ci → parseFieldDescriptor (tX ci k).2.2.1 = some (tY ci k) := by
  intro ci h
  match ci, h with
  | 0, _ => exact tyX0_ok
  | 1, _ => exact tyX1_ok
  | 2, _ => exact tyX2_ok
  | 3, _ => exact tyX3_ok
  | 4, _ => exact tyX4_ok
  | 5, _ => exact tyX5_ok
  | 6, _ => exact tyX6_ok
  | 7, _ => exact tyX7_ok
  | 8, _ => exact tyX8_ok
  | 9, _ => exact tyX9_ok
  | n + 10, h => exact absurd h (by omega)
theorem cl_nm : ∀ ci, ci < 10 → ∀ a, a < tN ci → ∀ b, b < tN ci → a ≠ b → (tX ci a).2.1 ≠ (tX ci b).2.1 := by
  intro ci h
  match ci, h with
  | 0, _ => exact nmX0
  | 1, _ => exact nmX1
  | 2, _ => exact nmX2
  | 3, _ => exact nmX3
  | 4, _ => exact nmX4
  | 5, _ => exact nmX5
  | 6, _ => exact nmX6
  | 7, _ => exact nmX7
  | 8, _ => exact nmX8
  | 9, _ => exact nmX9
  | n + 10, h => exact absurd h (by omega)
theorem cl_ws_b : ((List.range 10).all fun ci => (u_ws (cn ci) (tX ci) (tN ci)).all fun w => decide (w ∈ lw_tbl) && pw w) = true := by decide +kernel
theorem cl_ws : ∀ ci, ci < 10 → ∀ w ∈ u_ws (cn ci) (tX ci) (tN ci), w ∈ PW := by
  intro ci h w hw
  have h1 := List.all_eq_true.mp (List.all_eq_true.mp cl_ws_b ci (List.mem_range.mpr h)) w hw
  rw [Bool.and_eq_true, decide_eq_true_eq] at h1
  exact List.mem_filter.mpr h1
/-- a field's type by its tag: an int or a boolean, a long, a reference -/
def tagTy (t : Nat) (z : Nat) (ty : FieldType) : Bool := match t, ty with
  | 0, .int => z == 0
  | 0, .boolean => z == 1
  | 1, .long => true
  | 2, .object _ => true
  | 2, .array _ => true
  | _, _ => false
theorem ft_ok : ((List.range 10).all fun ci => decide ((FT.getD ci []).length = tN ci) && ((List.range (tN ci)).all fun k => tagTy ((FT.getD ci []).getD k 9) (if (tX ci k).2.2.1 = "Z" then 1 else 0) (tY ci k))) = true := by decide +kernel
noncomputable def flW (q : Nat × Nat × Nat × Nat × Nat) : Cond := .fieldLink (cn q.1) q.2.1 (tX q.2.2.1 q.2.2.2.1).1 (tX q.2.2.1 q.2.2.2.1).2.1 (tX q.2.2.1 q.2.2.2.1).2.2.1
theorem FL_ok : (FLk.all fun q => inT q.2.2.2.2 (flW q) && decide (q.2.2.1 < 10 ∧ q.2.2.2.1 < tN q.2.2.1)) = true := by decide +kernel
theorem ML_ok : (ML.all fun q => inT q.2.2.2 (.methodLink (cn q.1) q.2.1 (mY q.2.2.1))) = true := by decide +kernel
theorem CL_ok : (CLk.all fun q => inT q.2.2.2.1 (.classLink (cn q.1) q.2.1 (cn q.2.2.1)) && inT q.2.2.2.2.1 (.instantiable (cn q.2.2.1) (tN q.2.2.1)) && inT q.2.2.2.2.2 (.initialized (cn q.2.2.1)) && decide (q.2.2.1 < 10)) = true := by decide +kernel
theorem CLL_ok : (CLLk.all fun q => inT q.2.2.2 (.constantLong (cn q.1) q.2.1 (Int64.ofInt q.2.2.1))) = true := by decide +kernel
theorem CI_ok : (CIk.all fun q => inT q.2.2.2 (.constant (cn q.1) q.2.1 (Int32.ofInt q.2.2.1))) = true := by decide +kernel
theorem SL_ok : (SLk.all fun q => decide (SC[q.2.2]?.map (fun r => (r.1, r.2.1)) = some (cn q.1, q.2.1) ∧ q.2.2 < 8)) = true := by decide +kernel
theorem OL_ok : (OLk.all fun q => inT q.2.2 (.methodLink (cn q.1) q.2.1 Lib.objectInit)) = true := by decide +kernel
theorem PL_ok : (PLk.all fun q => inT q.2.2 (.methodLink (cn q.1) q.2.1 arraycopyName)) = true := by decide +kernel
theorem AL_ok : (ALk.all fun q => inT q.2.2 (.classLink (cn q.1) q.2.1 "IconSetBuilder$IconSet")) = true := by decide +kernel
noncomputable def codeW (k : Nat) : Cond := if mH k = [] then .code (mY k) (mC k) (mL k) (mR k) else .codeWith (mY k) (mC k) (mL k) (mR k) (mH k)
noncomputable def cwOk (k p : Nat) : Bool := match lw_tbl[p]? with
  | some (.code y _ l r) => decide (mH k = [] ∧ y = mY k ∧ l = mL k ∧ r = mR k)
  | some (.codeWith y _ l r h) => decide (mH k ≠ [] ∧ h = mH k ∧ y = mY k ∧ l = mL k ∧ r = mR k)
  | _ => false
noncomputable def mwOk (k : Nat) (q : Nat × Nat × Nat × Nat) : Bool := cwOk k q.1 && inT q.2.1 (if mG k = 1 then .static (mY k) else .instanceMethod (mY k)) && (if mG k = 0 then inT q.2.2.1 (.selects (cn (mO k)) (mY k) (mY k)) else true) && inT q.2.2.2 (.initialized (mY k).cls) && decide ((mY k).cls = cn (mO k)) && (if mG k = 2 then decide ((mY k).name = "<init>") else decide ((mY k).name ≠ "<init>"))
  && decide ((parseMethodDescriptor (mY k).desc).map (fun d => d.parameters.length) = some (mA k)) && decide ((mY k).cls ≠ "java/lang/invoke/MethodHandle" ∧ (mY k).cls ≠ "java/lang/invoke/VarHandle") && plainFor (mY k)
noncomputable def mwAll (a n : Nat) : Bool := (List.range' a n).all fun k => decide (k = kLaw) || mwOk k (MW.getD k (0, 0, 0, 0))
theorem MW_0 : mwAll 0 36 = true := by decide +kernel
theorem MW_36 : mwAll 36 36 = true := by decide +kernel
theorem MW_72 : mwAll 72 36 = true := by decide +kernel
theorem MW_108 : mwAll 108 36 = true := by decide +kernel
theorem MW_144 : mwAll 144 36 = true := by decide +kernel
theorem MW_180 : mwAll 180 36 = true := by decide +kernel
theorem MW_216 : mwAll 216 36 = true := by decide +kernel
theorem MW_252 : mwAll 252 36 = true := by decide +kernel
theorem MW_288 : mwAll 288 7 = true := by decide +kernel
theorem MW_ok (k : Nat) (hk : k < kN) (hl : k ≠ kLaw) : mwOk k (MW.getD k (0, 0, 0, 0)) = true := by
  have key : ∀ a n, mwAll a n = true → a ≤ k → k < a + n → mwOk k (MW.getD k (0, 0, 0, 0)) = true := fun a n h h1 h2 => by
    have := List.all_eq_true.mp h k (List.mem_range'_1.mpr ⟨h1, h2⟩)
    simpa [hl] using this
  have hk' : k < 295 := hk
  rcases Nat.lt_or_ge k 36 with h | h
  · exact key 0 36 MW_0 (by omega) (by omega)
  rcases Nat.lt_or_ge k 72 with h | h
  · exact key 36 36 MW_36 (by omega) (by omega)
  rcases Nat.lt_or_ge k 108 with h | h
  · exact key 72 36 MW_72 (by omega) (by omega)
  rcases Nat.lt_or_ge k 144 with h | h
  · exact key 108 36 MW_108 (by omega) (by omega)
  rcases Nat.lt_or_ge k 180 with h | h
  · exact key 144 36 MW_144 (by omega) (by omega)
  rcases Nat.lt_or_ge k 216 with h | h
  · exact key 180 36 MW_180 (by omega) (by omega)
  rcases Nat.lt_or_ge k 252 with h | h
  · exact key 216 36 MW_216 (by omega) (by omega)
  rcases Nat.lt_or_ge k 288 with h | h
  · exact key 252 36 MW_252 (by omega) (by omega)
  rcases Nat.lt_or_ge k 295 with h | h
  · exact key 288 7 MW_288 (by omega) (by omega)
  omega
