/-! THE RELATION between the abstract memory and the machine's heap, and what plain steps do to it. -/
/-- words that hold in every later state: the tables' -/
def pw (w : Cond) : Bool := goodWord w || (w.onTables && w.keepsFace)
theorem pw_at {args a' : Array Value} {s U : State} {w : Cond} (hW : s.WarmedH U.vm) (hp : pw w = true) (h : w.before args s = true) : w.before a' U = true := by
  unfold pw at hp
  rcases Bool.or_eq_true _ _ |>.mp hp with h1 | h1
  · exact word_at hW (good_of_word h1) h
  · rw [Bool.and_eq_true] at h1
    exact va_tabs h1.1 (rfl : (s.setVm U.vm).vm = U.vm) (Cond.before_shiftedFace (State.Shifted.of_warmed hW) _ h1.2 h)
noncomputable def PW : List Cond := lw_tbl.filter pw
def tys4 (cI cL cZ cQ : ClassId) : List (ClassId × FieldType) := [(cI, .int), (cL, .long), (cZ, .boolean), (cQ, .object "IconSetBuilder$IconSet")]
def fval (ad : Nat → Nat) (S : AS) (a t k : Nat) : Value := match t with
  | 0 => .int (Int32.ofInt (gi S a k))
  | 1 => .long (Int64.ofInt (gl S a k))
  | _ => va_rf ((gr S a k).map ad)
def fvs (ad : Nat → Nat) (S : AS) (a : Nat) (l : List Nat) : List Value := l.mapIdx (fun k t => fval ad S a t k)
def cellOf (cI cL cZ cQ : ClassId) (ad : Nat → Nat) (S : AS) (a : Nat) (q : Nat × Nat) : va_E :=
  if q.1 = 0 then .inr (q.2, fvs ad S a (FT.getD q.2 []))
  else if q.1 = 1 then .inl (cI, q.2, .inl (fun k => Int32.ofInt (gi S a k)))
  else if q.1 = 2 then .inl (cL, q.2, .inr (.inl (fun k => Int64.ofInt (gl S a k))))
  else if q.1 = 3 then .inl (cZ, q.2, .inl (fun k => Int32.ofInt (gi S a k)))
  else .inl (cQ, q.2, .inr (.inr (.inr (.inr (fun k => (gr S a k).map ad)))))
def wsOf (cI cL cZ cQ : ClassId) (ad : Nat → Nat) (S : AS) : va_W := (lay S).mapIdx (fun a q => (ad a, cellOf cI cL cZ cQ ad S a q))
theorem ws_get {cI cL cZ cQ : ClassId} {ad : Nat → Nat} {S : AS} {a : Nat} {q : Nat × Nat} (h : (lay S)[a]? = some q) : (wsOf cI cL cZ cQ ad S)[a]? = some (ad a, cellOf cI cL cZ cQ ad S a q) := by
  unfold wsOf
  rw [List.getElem?_mapIdx, h]
  rfl
theorem ws_ext {cI cL cZ cQ : ClassId} {ad : Nat → Nat} {S S' : AS} {a : Nat} {q : Nat × Nat} {e : va_E} (h : (lay S)[a]? = some q) (hl : lay S' = lay S)
    (he : cellOf cI cL cZ cQ ad S' a q = e) (ho : ∀ b p, b ≠ a → cellOf cI cL cZ cQ ad S' b p = cellOf cI cL cZ cQ ad S b p) : wsOf cI cL cZ cQ ad S' = (wsOf cI cL cZ cQ ad S).set a (ad a, e) := by
  refine List.ext_getElem? fun b => ?_
  unfold wsOf
  rw [List.getElem?_mapIdx, hl, List.getElem?_set, List.getElem?_mapIdx, List.length_mapIdx]
  by_cases hb : a = b
  · subst hb
    have hlt : a < (lay S).length := (List.getElem?_eq_some_iff.mp h).1
    rw [if_pos rfl, if_pos hlt, h, ← he]
    rfl
  · rw [if_neg hb]
    cases hq : (lay S)[b]? with
    | none => rfl
    | some p => simp only [Option.map_some]; rw [ho b p (fun h => hb h.symm)]
/-- the value v is the machine's w, where n cells stand -/
def tv (n : Nat) (ad : Nat → Nat) (v : AV) (w : Value) : Prop := match v with
  | .inl z => in32 z ∧ w = .int (Int32.ofInt z)
  | .inr (.inl z) => in64 z ∧ w = .long (Int64.ofInt z)
  | .inr (.inr (.inl none)) => w = .null
  | .inr (.inr (.inl (some a))) => (a < n ∨ 1000000 ≤ a) ∧ w = .ref (ad a)
  | .inr (.inr (.inr _)) => w = .null ∨ ∃ q : Nat, w = .ref q
theorem tv_cat {n : Nat} {ad : Nat → Nat} {v : AV} {w : Value} (h : tv n ad v w) : w.category = acat v := by
  match v, h with
  | .inl z, h => rw [h.2]; rfl
  | .inr (.inl z), h => rw [h.2]; rfl
  | .inr (.inr (.inl none)), h => rw [show w = .null from h]; rfl
  | .inr (.inr (.inl (some a))), h => rw [h.2]; rfl
  | .inr (.inr (.inr _)), h => rcases h with rfl | ⟨q, rfl⟩ <;> rfl
theorem tv_mono {n n' : Nat} {ad ad' : Nat → Nat} {v : AV} {w : Value} (hn : n ≤ n') (ha : ∀ a, a < n ∨ 1000000 ≤ a → ad' a = ad a) (h : tv n ad v w) : tv n' ad' v w := by
  match v, h with
  | .inl z, h => exact h
  | .inr (.inl z), h => exact h
  | .inr (.inr (.inl none)), h => exact h
  | .inr (.inr (.inl (some a))), h => exact ⟨h.1.imp (fun q => Nat.lt_of_lt_of_le q hn) id, by rw [ha a h.1]; exact h.2⟩
  | .inr (.inr (.inr _)), h => exact h
/-- stacks -/
def SR (n : Nat) (ad : Nat → Nat) : List AV → List Value → Prop
  | [], [] => True
  | v :: r, w :: t => tv n ad v w ∧ SR n ad r t
  | _, _ => False
theorem SR_mono {n n' : Nat} {ad ad' : Nat → Nat} (hn : n ≤ n') (ha : ∀ a, a < n ∨ 1000000 ≤ a → ad' a = ad a) : ∀ (st : List AV) (sv : List Value), SR n ad st sv → SR n' ad' st sv
  | [], [], _ => trivial
  | v :: r, w :: t, h => ⟨tv_mono hn ha h.1, SR_mono hn ha r t h.2⟩
  | [], _ :: _, h => h.elim
  | _ :: _, [], h => h.elim
theorem SR_nil {n : Nat} {ad : Nat → Nat} {sv : List Value} (h : SR n ad [] sv) : sv = [] := by
  cases sv with
  | nil => rfl
  | cons a b => exact h.elim
theorem SR_cons {n : Nat} {ad : Nat → Nat} {v : AV} {r : List AV} {sv : List Value} (h : SR n ad (v :: r) sv) : ∃ w t, sv = w :: t ∧ tv n ad v w ∧ SR n ad r t := by
  cases sv with
  | nil => exact h.elim
  | cons a b => exact ⟨a, b, rfl, h.1, h.2⟩
theorem SR_sum {n : Nat} {ad : Nat → Nat} : ∀ (st : List AV) (sv : List Value), SR n ad st sv → (sv.map fun v => v.category).sum = (st.map acat).sum
  | [], [], _ => rfl
  | v :: r, w :: t, h => by
    simp only [List.map_cons, List.sum_cons]
    rw [tv_cat h.1, SR_sum r t h.2]
  | [], _ :: _, h => h.elim
  | _ :: _, [], h => h.elim
theorem SR_app {n : Nat} {ad : Nat → Nat} : ∀ (a : List AV) (b : List AV) (sv : List Value), SR n ad (a ++ b) sv → ∃ x y, sv = x ++ y ∧ SR n ad a x ∧ SR n ad b y
  | [], b, sv, h => ⟨[], sv, rfl, trivial, h⟩
  | v :: r, b, sv, h => by
    obtain ⟨w, t, rfl, h1, h2⟩ := SR_cons h
    obtain ⟨x, y, rfl, h3, h4⟩ := SR_app r b t h2
    exact ⟨w :: x, y, rfl, ⟨h1, h3⟩, h4⟩
theorem SR_append {n : Nat} {ad : Nat → Nat} : ∀ (a : List AV) (b : List AV) (x y : List Value), SR n ad a x → SR n ad b y → SR n ad (a ++ b) (x ++ y)
  | [], b, [], y, _, h => h
  | v :: r, b, w :: t, y, h, h2 => ⟨h.1, SR_append r b t y h.2 h2⟩
  | [], b, _ :: _, y, h, _ => h.elim
  | _ :: _, b, [], y, h, _ => h.elim
theorem SR_rev {n : Nat} {ad : Nat → Nat} : ∀ (a : List AV) (x : List Value), SR n ad a x → SR n ad a.reverse x.reverse
  | [], [], _ => trivial
  | v :: r, w :: t, h => by
    rw [List.reverse_cons, List.reverse_cons]
    exact SR_append _ _ _ _ (SR_rev r t h.2) ⟨h.1, trivial⟩
  | [], _ :: _, h => h.elim
  | _ :: _, [], h => h.elim
theorem SR_len {n : Nat} {ad : Nat → Nat} : ∀ (a : List AV) (x : List Value), SR n ad a x → x.length = a.length
  | [], [], _ => rfl
  | v :: r, w :: t, h => by rw [List.length_cons, List.length_cons, SR_len r t h.2]
  | [], _ :: _, h => h.elim
  | _ :: _, [], h => h.elim
/-- locals -/
def LR (n : Nat) (ad : Nat → Nat) (nL : Nat) (L : ALs) (ls : Array Slot) : Prop := ls.size = nL ∧ lv_wf ls ∧ L.length = nL ∧ ∀ (i : Nat) (v : AV), L[i]? = some (some v) → ∃ w, ls[i]? = some (.val w) ∧ tv n ad v w
theorem LR_mono {n n' : Nat} {ad ad' : Nat → Nat} {nL : Nat} {L : ALs} {ls : Array Slot} (hn : n ≤ n') (ha : ∀ a, a < n ∨ 1000000 ≤ a → ad' a = ad a) (h : LR n ad nL L ls) : LR n' ad' nL L ls :=
  ⟨h.1, h.2.1, h.2.2.1, fun i v hi => by
    obtain ⟨w, h1, h2⟩ := h.2.2.2 i v hi
    exact ⟨w, h1, tv_mono hn ha h2⟩⟩
/-- all that a frame's locals hold, for the kit's rows of stores -/
def lvA (ls : Array Slot) : List (Nat × Value) := (List.range ls.size).filterMap (fun i => match (ls[i]? : Option Slot) with
  | some (Slot.val w) => some (i, w)
  | _ => none)
theorem lvA_mem {ls : Array Slot} {i : Nat} {w : Value} : (i, w) ∈ lvA ls ↔ ls[i]? = some (.val w) := by
  unfold lvA
  rw [List.mem_filterMap]
  constructor
  · rintro ⟨j, -, hj⟩
    split at hj
    · next x hx => cases hj; exact hx
    · cases hj
  · intro h
    refine ⟨i, List.mem_range.mpr (Array.getElem?_eq_some_iff.mp h).1, ?_⟩
    rw [h]
theorem lvA_has {n : Nat} {ad : Nat → Nat} {nL : Nat} {L : ALs} {ls : Array Slot} (h : LR n ad nL L ls) : lv_has ls nL (lvA ls) :=
  ⟨h.1, h.2.1, fun q hq => lvA_mem.mp hq⟩
theorem kil_len (L : ALs) (i : Nat) : (kil L i).length = L.length := by
  unfold kil
  cases i with
  | zero => rfl
  | succ j => simp only; split <;> simp
theorem kil_get {L : ALs} {i j : Nat} {v : AV} (h : (kil L i)[j]? = some (some v)) : L[j]? = some (some v) ∧ ¬ (j + 1 = i ∧ acat v = 2) := by
  unfold kil at h
  cases i with
  | zero => exact ⟨h, fun q => by omega⟩
  | succ k =>
    simp only at h
    split at h
    · next hk =>
      rw [List.getElem?_set] at h
      split at h
      · split at h <;> simp at h
      · next hne => exact ⟨h, fun q => hne (by omega)⟩
    · next hk =>
      refine ⟨h, fun q => hk ?_⟩
      have e : j = k := by omega
      subst e
      rw [h]
      match v, q.2 with
      | .inr (.inl z), _ => rfl
      | .inl z, q => simp [acat] at q
      | .inr (.inr z), q => simp [acat] at q
theorem LR_st1 {n : Nat} {ad : Nat → Nat} {nL i : Nat} {L L' : ALs} {ls ls' : Array Slot} {v : AV} {x : Value} (h : LR n ad nL L ls) (hv : tv n ad v x) (hL : st1 L i v = some L')
    (h' : lv_has ls' nL ((i, x) :: (lvA ls).filter (fun q => !(q.1 == i) && !(q.1 + 1 == i && q.2.category == 2)))) : LR n ad nL L' ls' := by
  unfold st1 at hL
  split at hL
  · next hi =>
    cases hL
    refine ⟨h'.1, h'.2.1, by rw [List.length_set, kil_len]; exact h.2.2.1, fun j u hj => ?_⟩
    rw [List.getElem?_set, kil_len] at hj
    split at hj
    · next e =>
      subst e
      cases hj
      exact ⟨x, h'.2.2 _ List.mem_cons_self, hv⟩
    · next e =>
      obtain ⟨h1, h2⟩ := kil_get hj
      obtain ⟨w, h3, h4⟩ := h.2.2.2 j u h1
      refine ⟨w, h'.2.2 (j, w) (List.mem_cons_of_mem _ (List.mem_filter.mpr ⟨lvA_mem.mpr h3, ?_⟩)), h4⟩
      have hc := tv_cat h4
      have e1 : ¬ j = i := fun q => e q.symm
      simp only [Bool.and_eq_true, Bool.not_eq_true', beq_eq_false_iff_ne, ne_eq, Bool.and_eq_false_iff]
      refine ⟨e1, ?_⟩
      by_cases q1 : j + 1 = i
      · exact Or.inr (fun q2 => h2 ⟨q1, by rw [← hc]; exact q2⟩)
      · exact Or.inl q1
  · cases hL
theorem LR_st2 {n : Nat} {ad : Nat → Nat} {nL i : Nat} {L L' : ALs} {ls ls' : Array Slot} {v : AV} {x : Value} (h : LR n ad nL L ls) (hv : tv n ad v x) (hL : st2 L i v = some L')
    (h' : lv_has ls' nL ((i, x) :: (lvA ls).filter (fun q => !(q.1 == i) && (!(q.1 == i + 1) && !(q.1 + 1 == i && q.2.category == 2))))) : LR n ad nL L' ls' := by
  unfold st2 at hL
  split at hL
  · next hi =>
    cases hL
    refine ⟨h'.1, h'.2.1, by rw [List.length_set, List.length_set, kil_len]; exact h.2.2.1, fun j u hj => ?_⟩
    rw [List.getElem?_set, List.length_set, kil_len] at hj
    split at hj
    · simp at hj
    · next e0 =>
    rw [List.getElem?_set, kil_len] at hj
    split at hj
    · next e =>
      subst e
      rw [if_pos (show i < L.length by omega)] at hj
      cases hj
      exact ⟨x, h'.2.2 _ List.mem_cons_self, hv⟩
    · next e =>
      obtain ⟨h1, h2⟩ := kil_get hj
      obtain ⟨w, h3, h4⟩ := h.2.2.2 j u h1
      refine ⟨w, h'.2.2 (j, w) (List.mem_cons_of_mem _ (List.mem_filter.mpr ⟨lvA_mem.mpr h3, ?_⟩)), h4⟩
      have hc := tv_cat h4
      have e1 : ¬ j = i := fun q => e q.symm
      have e2 : ¬ j = i + 1 := fun q => e0 q.symm
      simp only [Bool.and_eq_true, Bool.not_eq_true', beq_eq_false_iff_ne, ne_eq, Bool.and_eq_false_iff]
      refine ⟨e1, e2, ?_⟩
      by_cases q1 : j + 1 = i
      · exact Or.inr (fun q2 => h2 ⟨q1, by rw [← hc]; exact q2⟩)
      · exact Or.inl q1
  · cases hL
theorem st1_lt {L L' : ALs} {i : Nat} {v : AV} (h : st1 L i v = some L') : i < L.length := by
  unfold st1 at h
  split at h
  · assumption
  · cases h
theorem st2_lt {L L' : ALs} {i : Nat} {v : AV} (h : st2 L i v = some L') : i + 1 < L.length := by
  unfold st2 at h
  split at h
  · assumption
  · cases h
