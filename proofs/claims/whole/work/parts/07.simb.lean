/-! WHAT STANDS OUTSIDE the law's own cells; a method's context; the memory's relation -/
def SC : List (String × Nat × String) := [("IconSetBuilderModel", 142, "size"), ("IconSetBuilderModel", 151, "extra"), ("IconSetBuilderModel", 172, "part"), ("IconSetBuilderModel", 160, "bar"), ("IconSetBuilderModel", 162, "box"), ("IconSetBuilderModel", 164, "line"), ("IconSetBuilderModel", 184, "icon"), ("IconSetBuilderModel", 183, "at"), ("IconSetBuilder", 313, "this cannot be done now"), ("IconSetBuilder", 308, "an argument is out of range"), ("IconSetBuilder", 301, "there is nothing with this index"), ("IconSetBuilder", 318, "there are no icons")]
def lenS : List Nat := TXT.map (fun l => l.length)
def bytS : List (List Int32) := TXT.map (fun l => l.map (fun c => Int32.ofNat c))
def NC : List (String × String) := (XN.flatMap (fun a => XN.map (fun b => (a, b)))).filter (fun q => decide (q.1 ≠ q.2))
def Ext (adX : Nat → Nat) (X : AX) (A : Nat → Prop) (U : State) (H : Heap) : Prop :=
  (∀ q ∈ NLk, va_Nw (.methodLinkNest (cn q.1) q.2.1 (mY q.2.2.1) "IconSetBuilder") U) ∧
  (∀ (i : Nat) (q : String × Nat × String), SC[i]? = some q → vk_R q.1 q.2.1 q.2.2 (adX (xStr + i)) U) ∧
  vk_S 8 lenS bytS (fun i => adX (xStr + i)) (fun i => adX (xByt + i)) A U H ∧
  vx_Zq Bundle.tN "UNASSIGNED_STACK" Bundle.steD A U H ∧ vx_Zq Bundle.tN "SUPPRESSED_SENTINEL" Bundle.listD A U H ∧
  va_Z "IconSetBuilder" "EXTRAS_BY_PREFERENCE" "[I" (.ref (adX xExt)) A U H ∧ va_T .int (adX xExt) 5 (fun j => .int (Int32.ofInt (exs.getD j 0))) A U H ∧
  va_T .int (adX xScr) X.1 (fun j => .int (Int32.ofInt (X.2 j))) A U H ∧ (∀ j, in32 (X.2 j)) ∧ X.1 ≤ 3072 ∧
  va_Z "java/lang/String" "COMPACT_STRINGS" "Z" (.int 1) A U H ∧ va_Zq "jdk/internal/util/Preconditions" "SIOOBE_FORMATTER" "Ljava/util/function/BiFunction;" A U H ∧
  (∀ q ∈ NC, va_Nc q.1 q.2 U) ∧ va_AO "IconSetBuilder$IconSet" U
theorem Ext.call {adX : Nat → Nat} {X : AX} {A B : Nat → Prop} {s U : State} {H : Heap} {locs : List Loc} (h : Ext adX X A s s.heap) (hS : va_S A s.heap H locs) (hW : s.WarmedH U.vm) (hAB : ∀ q, B q → A q) : Ext adX X B U H := by
  obtain ⟨h1, h2, h3, h4, h5, h6, h7, h8, h9, h10, h11, h12, h13, h14⟩ := h
  have ha := hW.alike
  exact ⟨fun q hq => va_Nw.warmM hW (h1 q hq), fun i q hi => vk_R.warm hW (h2 i q hi), ((h3.kept hS.2.1).moved ha).narrow hAB,
    ((h4.kept hS.2.1).moved ha).narrow hAB, ((h5.kept hS.2.1).moved ha).narrow hAB, ((h6.kept hS.2.1).moved ha).narrow hAB, ((h7.kept hS.2.1).moved ha).narrow hAB,
    ((h8.kept hS.2.1).moved ha).narrow hAB, h9, h10, ((h11.kept hS.2.1).moved ha).narrow hAB, ((h12.kept hS.2.1).moved ha).narrow hAB, fun q hq => va_Nc.moved ha (h13 q hq), h14.moved ha⟩
/-- a method's context: what holds of the machine all through the run of method k's body -/
def Cx (D : va_G) (cI cL cZ cQ : ClassId) (adX : Nat → Nat) (X : AX) (k : Nat) (p : Program) (R : Room) (s : State) (m : MethodId) (args : Array Value) (meth : Method) (c : Code) (A : Nat → Prop) : Prop :=
  p.tables.exec = Jvm.exec ∧ c.code = mC k ∧ c.maxLocals = mL k ∧ s.vm.findClass (cn (mO k)) = some m.cls ∧ (∀ w ∈ PW, w.before args s = true) ∧
  va_K D vwCl (tys4 cI cL cZ cQ) s ∧ (∀ q, s.heap.size ≤ q → A q) ∧ Ext adX X A s s.heap ∧ meth.locks = false ∧ meth.sig.returnType = mR k ∧
  c.exceptionTable.toList = tableOf (mH k) ∧ meth.name = (mY k).name ∧ mF k ≤ R.frames ∧ mLo k ≤ R.locals
/-- the abstract memory S lies in the heap H at the addresses ad -/
def Mx (D : va_G) (cI cL cZ cQ : ClassId) (adX : Nat → Nat) (ad : Nat → Nat) (S : AS) (A : Nat → Prop) (H0 H : Heap) (locs : List Loc) : Prop :=
  va_P D vwCl (wsOf cI cL cZ cQ ad S) H ∧ va_D A (wsOf cI cL cZ cQ ad S) ∧ va_S A H0 H locs ∧ (∀ a k, in32 (gi S a k)) ∧ (∀ a k, in64 (gl S a k)) ∧
  (∀ a k b, gr S a k = some b → b < (lay S).length) ∧ (∀ q ∈ lay S, q.2 ≤ 100000) ∧ (∀ a, 1000000 ≤ a → ad a = adX a) ∧ (lay S).length ≤ 1000000
theorem Mx.len {D : va_G} {cI cL cZ cQ : ClassId} {adX ad : Nat → Nat} {S : AS} {A : Nat → Prop} {H0 H : Heap} {locs : List Loc} (h : Mx D cI cL cZ cQ adX ad S A H0 H locs) {a : Nat} {q : Nat × Nat} (hq : (lay S)[a]? = some q) : q.2 ≤ 100000 :=
  h.2.2.2.2.2.2.1 q (List.mem_of_getElem? hq)
theorem up2_in {P : Int → Prop} {f : Nat → Nat → Int} (h : ∀ a k, P (f a k)) {a k : Nat} {z : Int} (hz : P z) : ∀ b j, P (up2 f a k z b j) := by
  intro b j
  unfold up2
  split
  · split
    · exact hz
    · exact h b j
  · exact h b j
theorem cell_si {cI cL cZ cQ : ClassId} {ad : Nat → Nat} {S : AS} {a k : Nat} {z : Int} (b : Nat) (p : Nat × Nat) (h : b ≠ a) : cellOf cI cL cZ cQ ad (si S a k z) b p = cellOf cI cL cZ cQ ad S b p := by
  have e : ∀ j, gi (si S a k z) b j = gi S b j := fun j => by simp [si, gi, up2, h]
  unfold cellOf fvs fval
  simp only [e]
  rfl
theorem cell_sl {cI cL cZ cQ : ClassId} {ad : Nat → Nat} {S : AS} {a k : Nat} {z : Int} (b : Nat) (p : Nat × Nat) (h : b ≠ a) : cellOf cI cL cZ cQ ad (sl S a k z) b p = cellOf cI cL cZ cQ ad S b p := by
  have e : ∀ j, gl (sl S a k z) b j = gl S b j := fun j => by simp [sl, gl, up2, h]
  unfold cellOf fvs fval
  simp only [e]
  rfl
theorem cell_sr {cI cL cZ cQ : ClassId} {ad : Nat → Nat} {S : AS} {a k : Nat} {z : Option Nat} (b : Nat) (p : Nat × Nat) (h : b ≠ a) : cellOf cI cL cZ cQ ad (sr S a k z) b p = cellOf cI cL cZ cQ ad S b p := by
  have e : ∀ j, gr (sr S a k z) b j = gr S b j := fun j => by simp [sr, gr, up2, h]
  unfold cellOf fvs fval
  simp only [e]
  rfl
theorem fvs_get {ad : Nat → Nat} {S : AS} {a k t : Nat} {l : List Nat} (h : l[k]? = some t) : (fvs ad S a l)[k]? = some (fval ad S a t k) := by
  unfold fvs
  rw [List.getElem?_mapIdx, h]
  rfl
theorem fvs_len {ad : Nat → Nat} {S : AS} {a : Nat} {l : List Nat} : (fvs ad S a l).length = l.length := by unfold fvs; rw [List.length_mapIdx]
theorem fvs_set {ad : Nat → Nat} {S S' : AS} {a k t : Nat} {l : List Nat} {v : Value} (h : l[k]? = some t) (hv : fval ad S' a t k = v) (ho : ∀ j u, j ≠ k → fval ad S' a u j = fval ad S a u j) : fvs ad S' a l = (fvs ad S a l).set k v := by
  refine List.ext_getElem? fun j => ?_
  rw [List.getElem?_set, fvs_len]
  unfold fvs
  rw [List.getElem?_mapIdx, List.getElem?_mapIdx]
  by_cases hj : k = j
  · subst hj
    rw [if_pos rfl, if_pos (List.getElem?_eq_some_iff.mp h).1, h, ← hv]
    rfl
  · rw [if_neg hj]
    cases hq : l[j]? with
    | none => rfl
    | some u => simp only [Option.map_some]; rw [ho j u (fun h => hj h.symm)]
theorem ws_si {cI cL cZ cQ : ClassId} {ad : Nat → Nat} {S : AS} {a k ci : Nat} {z : Int} (h : (lay S)[a]? = some (0, ci)) (hf : (FT.getD ci [])[k]? = some 0) :
    wsOf cI cL cZ cQ ad (si S a k z) = (wsOf cI cL cZ cQ ad S).set a (ad a, .inr (ci, (fvs ad S a (FT.getD ci [])).set k (.int (Int32.ofInt z)))) := by
  refine ws_ext (q := (0, ci)) h rfl ?_ (fun b p hb => cell_si b p hb)
  unfold cellOf
  rw [if_pos rfl]
  refine congrArg _ (congrArg _ (fvs_set (t := 0) hf ?_ (fun j u hj => ?_)))
  · simp [fval, gi, si, up2]
  · match u with
    | 0 => simp [fval, gi, si, up2, hj]
    | 1 => simp [fval, gl, si]
    | u + 2 => simp [fval, gr, si]
theorem ws_sl {cI cL cZ cQ : ClassId} {ad : Nat → Nat} {S : AS} {a k ci : Nat} {z : Int} (h : (lay S)[a]? = some (0, ci)) (hf : (FT.getD ci [])[k]? = some 1) :
    wsOf cI cL cZ cQ ad (sl S a k z) = (wsOf cI cL cZ cQ ad S).set a (ad a, .inr (ci, (fvs ad S a (FT.getD ci [])).set k (.long (Int64.ofInt z)))) := by
  refine ws_ext (q := (0, ci)) h rfl ?_ (fun b p hb => cell_sl b p hb)
  unfold cellOf
  rw [if_pos rfl]
  refine congrArg _ (congrArg _ (fvs_set (t := 1) hf ?_ (fun j u hj => ?_)))
  · simp [fval, gl, sl, up2]
  · match u with
    | 0 => simp [fval, gi, sl]
    | 1 => simp [fval, gl, sl, up2, hj]
    | u + 2 => simp [fval, gr, sl]
theorem ws_sr {cI cL cZ cQ : ClassId} {ad : Nat → Nat} {S : AS} {a k ci b : Nat} (h : (lay S)[a]? = some (0, ci)) (hf : (FT.getD ci [])[k]? = some 2) :
    wsOf cI cL cZ cQ ad (sr S a k (some b)) = (wsOf cI cL cZ cQ ad S).set a (ad a, .inr (ci, (fvs ad S a (FT.getD ci [])).set k (.ref (ad b)))) := by
  refine ws_ext (q := (0, ci)) h rfl ?_ (fun b p hb => cell_sr b p hb)
  unfold cellOf
  rw [if_pos rfl]
  refine congrArg _ (congrArg _ (fvs_set (t := 2) hf ?_ (fun j u hj => ?_)))
  · simp [fval, gr, sr, up2, va_rf]
  · match u with
    | 0 => simp [fval, gi, sr]
    | 1 => simp [fval, gl, sr]
    | u + 2 => simp [fval, gr, sr, up2, hj]
theorem ws_siA {cI cL cZ cQ : ClassId} {ad : Nat → Nat} {S : AS} {a k n : Nat} {z : Int} (h : (lay S)[a]? = some (1, n)) :
    wsOf cI cL cZ cQ ad (si S a k z) = (wsOf cI cL cZ cQ ad S).set a (ad a, .inl (cI, n, .inl (upd (fun j => Int32.ofInt (gi S a j)) k (Int32.ofInt z)))) := by
  refine ws_ext (q := (1, n)) h rfl ?_ (fun b p hb => cell_si b p hb)
  unfold cellOf
  simp only [Nat.one_ne_zero, if_false, if_true, Sum.inl.injEq, Prod.mk.injEq, true_and]
  funext j
  simp only [gi, si, up2, upd, if_true]
  split <;> rfl
theorem ws_siZ {cI cL cZ cQ : ClassId} {ad : Nat → Nat} {S : AS} {a k n : Nat} {z : Int} (h : (lay S)[a]? = some (3, n)) :
    wsOf cI cL cZ cQ ad (si S a k z) = (wsOf cI cL cZ cQ ad S).set a (ad a, .inl (cZ, n, .inl (upd (fun j => Int32.ofInt (gi S a j)) k (Int32.ofInt z)))) := by
  refine ws_ext (q := (3, n)) h rfl ?_ (fun b p hb => cell_si b p hb)
  unfold cellOf
  simp only [show ¬ (3 = 0) by decide, show ¬ (3 = 1) by decide, show ¬ (3 = 2) by decide, if_false, if_true, Sum.inl.injEq, Prod.mk.injEq, true_and]
  funext j
  simp only [gi, si, up2, upd, if_true]
  split <;> rfl
theorem ws_slA {cI cL cZ cQ : ClassId} {ad : Nat → Nat} {S : AS} {a k n : Nat} {z : Int} (h : (lay S)[a]? = some (2, n)) :
    wsOf cI cL cZ cQ ad (sl S a k z) = (wsOf cI cL cZ cQ ad S).set a (ad a, .inl (cL, n, .inr (.inl (vp_updL (fun j => Int64.ofInt (gl S a j)) k (Int64.ofInt z))))) := by
  refine ws_ext (q := (2, n)) h rfl ?_ (fun b p hb => cell_sl b p hb)
  unfold cellOf
  simp only [show ¬ (2 = 0) by decide, show ¬ (2 = 1) by decide, if_false, if_true, Sum.inl.injEq, Prod.mk.injEq, true_and]
  refine congrArg _ (congrArg _ ?_)
  funext j
  simp only [gl, sl, up2, vp_updL, if_true]
  split <;> rfl
theorem ws_new {cI cL cZ cQ : ClassId} {ad : Nat → Nat} {S : AS} {q : Nat × Nat} {n x : Nat} (hr : ∀ a k b, gr S a k = some b → b < (lay S).length) :
    wsOf cI cL cZ cQ (va_up ad (lay S).length x) (mk S q n) = wsOf cI cL cZ cQ ad S ++ [(x, cellOf cI cL cZ cQ ad (mk S q n) (lay S).length q)] := by
  have hg : ∀ a k, (gr S a k).map (va_up ad (lay S).length x) = (gr S a k).map ad := fun a k => by
    cases h : gr S a k with
    | none => rfl
    | some b => simp only [Option.map_some]; rw [va_up_ne _ _ (Nat.ne_of_lt (hr a k b h))]
  have hl : lay (mk S q n) = lay S ++ [q] := rfl
  unfold wsOf
  rw [hl, List.mapIdx_append]
  have e1 : ∀ a p, a < (lay S).length → cellOf cI cL cZ cQ (va_up ad (lay S).length x) (mk S q n) a p = cellOf cI cL cZ cQ ad S a p := by
    intro a p ha
    have hne : a ≠ (lay S).length := Nat.ne_of_lt ha
    have f1 : ∀ j, gi (mk S q n) a j = gi S a j := fun j => by simp only [gi, mk]; exact if_neg hne
    have f2 : ∀ j, gl (mk S q n) a j = gl S a j := fun j => by simp only [gl, mk]; exact if_neg hne
    have f3 : ∀ j, gr (mk S q n) a j = gr S a j := fun j => by simp only [gr, mk]; exact if_neg hne
    unfold cellOf fvs fval
    simp only [f1, f2, f3, hg]
  have e2 : ∀ p, cellOf cI cL cZ cQ (va_up ad (lay S).length x) (mk S q n) (lay S).length p = cellOf cI cL cZ cQ ad (mk S q n) (lay S).length p := by
    intro p
    have f3 : ∀ j, gr (mk S q n) (lay S).length j = none := fun j => by simp [gr, mk]
    unfold cellOf fvs fval
    simp only [f3, Option.map_none]
  have e3 : ∀ {α : Type} {a b c d : List α}, a = c → b = d → a ++ b = c ++ d := fun h1 h2 => by rw [h1, h2]
  refine e3 ?_ ?_
  · refine List.ext_getElem? fun a => ?_
    rw [List.getElem?_mapIdx, List.getElem?_mapIdx]
    cases hq : (lay S)[a]? with
    | none => rfl
    | some p =>
      have ha := (List.getElem?_eq_some_iff.mp hq).1
      simp only [Option.map_some]
      rw [e1 a p ha, va_up_ne _ _ (Nat.ne_of_lt ha)]
  · simp only [List.mapIdx_cons, List.mapIdx_nil, Nat.zero_add]
    rw [e2, va_up_self]
