/-! RETURNS, the entry of a method, the handlers' tables. -/
theorem ent_one {n : Nat} {ad : Nat → Nat} {a : AV} {w : Value} (h : tv n ad a w) {L : ALs} {V : List Slot} (h1 : L.length = V.length) (h2 : ∀ (i : Nat) (v : AV), L[i]? = some (some v) → ∃ w, V[i]? = some (.val w) ∧ tv n ad v w) :
    ((if acat a = 2 then [some a, none] else [some a]) ++ L).length = ((if w.category = 2 then [Slot.val w, .second] else [.val w]) ++ V).length ∧ ∀ (i : Nat) (v : AV), ((if acat a = 2 then [some a, none] else [some a]) ++ L)[i]? = some (some v) → ∃ w2, ((if w.category = 2 then [Slot.val w, .second] else [.val w]) ++ V)[i]? = some (.val w2) ∧ tv n ad v w2 := by
  rw [tv_cat h]
  by_cases hc : acat a = 2
  · rw [if_pos hc, if_pos hc]
    refine ⟨by simp [h1], fun i v hi => ?_⟩
    match i, hi with
    | 0, hi => cases hi; exact ⟨w, rfl, h⟩
    | 1, hi => simp at hi
    | i + 2, hi => exact h2 i v hi
  · rw [if_neg hc, if_neg hc]
    refine ⟨by simp [h1], fun i v hi => ?_⟩
    match i, hi with
    | 0, hi => cases hi; exact ⟨w, rfl, h⟩
    | i + 1, hi => exact h2 i v hi
theorem entL_cons (a : AV) (r : List AV) : entL (a :: r) = (if acat a = 2 then [some a, none] else [some a]) ++ entL r := by
  match a with
  | .inl z => rfl
  | .inr (.inl z) => rfl
  | .inr (.inr z) => rfl
theorem ent_get {n : Nat} {ad : Nat → Nat} : ∀ (as : List AV) (vs : List Value), SR n ad as vs → (entL as).length = (lg_sl vs).length ∧ ∀ (i : Nat) (v : AV), (entL as)[i]? = some (some v) → ∃ w, (lg_sl vs)[i]? = some (.val w) ∧ tv n ad v w
  | [], [], _ => ⟨rfl, fun i v h => by simp [entL] at h⟩
  | a :: r, w :: t, h => by
    obtain ⟨ih1, ih2⟩ := ent_get r t h.2
    have e : lg_sl (w :: t) = (if w.category = 2 then [Slot.val w, .second] else [.val w]) ++ lg_sl t := rfl
    rw [entL_cons, e]
    exact ent_one h.1 ih1 ih2
  | [], _ :: _, h => h.elim
  | _ :: _, [], h => h.elim
theorem LR_entry {n nL : Nat} {ad : Nat → Nat} {as : List AV} {vs : List Value} (h : SR n ad as vs) (hn : (entL as).length ≤ nL) : LR n ad nL (entL as ++ List.replicate (nL - (entL as).length) none) (lg_sl vs ++ List.replicate (nL - (lg_sl vs).length) Slot.unset).toArray := by
  obtain ⟨h1, h2⟩ := ent_get as vs h
  have hv := lv_entry vs (n := nL) (by rw [← h1]; exact hn)
  refine ⟨hv.1, hv.2.1, by rw [List.length_append, List.length_replicate]; omega, fun i v hi => ?_⟩
  rcases Nat.lt_or_ge i (entL as).length with hl | hl
  · rw [List.getElem?_append_left hl] at hi
    obtain ⟨w, h3, h4⟩ := h2 i v hi
    refine ⟨w, ?_, h4⟩
    rw [List.getElem?_toArray, List.getElem?_append_left (by omega)]
    exact h3
  · rw [List.getElem?_append_right hl, List.getElem?_replicate] at hi
    split at hi <;> simp at hi
theorem nar_small {z : Int} (h0 : 0 ≤ z) (h1 : z ≤ 127) : narrow .char (.int (Int32.ofInt z)) = .int (Int32.ofInt z) ∧ narrow .byte (.int (Int32.ofInt z)) = .int (Int32.ofInt z) := by
  have h : ∀ n : Fin 128, narrow .char (.int (Int32.ofInt (n.val : Int))) = .int (Int32.ofInt (n.val : Int)) ∧ narrow .byte (.int (Int32.ofInt (n.val : Int))) = .int (Int32.ofInt (n.val : Int)) := by decide +kernel
  have h2 := h ⟨z.toNat, by omega⟩
  have e : ((z.toNat : Nat) : Int) = z := Int.toNat_of_nonneg h0
  simp only [e] at h2
  exact h2
section SIMR
variable {p : Program} {l : Launch} {e : Env} {R : Room} {s : State} {m : MethodId} {args : Array Value} {below : List Frame} {meth : Method} {c : Code} {H : Heap} {locs : List Loc} {cells slots : Nat} {Q : State → Prop}
variable {D : va_G} {cI cL cZ cQ : ClassId} {adX ad : Nat → Nat} {X : AX} {k pc len : Nat} {A : Nat → Prop} {I : Instr} {ax : Nat × Nat × Nat} {L L' : ALs} {st st' : List AV} {S S' : AS} {ls : Array Slot} {sv : List Value}
theorem sim_r {o : Option AV ⊕ Nat} (C : Cx D cI cL cZ cQ adX X k p R s m args meth c A) (hd : decode (mC k) pc = .ok (I, il I)) (hk : lkb k I ax = true)
    (hm : (match I with | .ireturn | .lreturn | .areturn | .return_ => true | _ => false) = true)
    (hc : ctl I len ax (pc, L, st) S = some (.inr (.inr (o, S')))) {ad0 : Nat → Nat} {n0 : Nat} (hag : ∀ a, a < n0 ∨ 1000000 ≤ a → ad a = ad0 a) (hn0 : n0 ≤ (lay S).length)
    (hM : Mx D cI cL cZ cQ adX ad S A s.heap H locs) (hs : SR (lay S).length ad st sv) :
    S' = S ∧ W p l e R s m args below meth c H locs cells slots (vx_MQ below (QcF D cI cL cZ cQ adX ad0 n0 S A o) (XcF D cI cL cZ cQ adX ad0 n0 S A o) args s cells slots A) (F0 m pc ls sv) := by
  obtain ⟨hx, hb, hml, hown, hts, hK, hA, hE, hlo, hr, htab, hnm, hfr, hro⟩ := C
  obtain ⟨hP, hDD, hS, hin, hin6, hrf, hln, hadx, hll⟩ := id hM
  have fin : ∀ (v : Option AV) (w : Option Value), o = .inl v → tvo (lay S).length ad v w → ∀ t : State, t.heap = H → s.WarmedH t.vm → QcF D cI cL cZ cQ adX ad0 n0 S A o args s (.returned w) t := by
    intro v w ho hw t ht _
    refine ⟨v, w, ad, ho, rfl, hw, ⟨hag, hn0, ?_⟩, hS.F ht⟩
    rw [ht]
    exact Mx.at hM ⟨Nat.le_refl _, fun _ _ => rfl⟩
  cases I with
  | ireturn =>
    simp only [ctl] at hc
    simp only [lkb, decide_eq_true_eq] at hk
    split at hc
    · next _ z =>
      split at hc
      · next hz =>
        cases hc
        obtain ⟨w, t, rfl, ⟨h3, rfl⟩, hs2⟩ := SR_cons hs
        obtain rfl := SR_nil hs2
        refine ⟨rfl, ?_⟩
        refine vx_ret ?_
        rcases hk with ⟨k1, k2⟩ | ⟨k1, k2⟩ | ⟨k1, k2⟩
        · exact W.iret hx hb (hr.trans k2) (fin (some (vi z)) _ rfl ⟨h3, rfl⟩) hS.2.2 hd hlo
        · have hz2 : z = 0 ∨ z = 1 := by omega
          exact W.zret hx hb (hr.trans k2) (nar01 hz2).1 (fin (some (vi z)) _ rfl ⟨h3, rfl⟩) hS.2.2 hd hlo
        · have hz2 : 0 ≤ z ∧ z ≤ 127 := by omega
          rcases k2 with k2 | k2
          · exact W.zret hx hb (hr.trans k2) (nar_small hz2.1 hz2.2).1 (fin (some (vi z)) _ rfl ⟨h3, rfl⟩) hS.2.2 hd hlo
          · exact W.zret hx hb (hr.trans k2) (nar_small hz2.1 hz2.2).2 (fin (some (vi z)) _ rfl ⟨h3, rfl⟩) hS.2.2 hd hlo
      · cases hc
    · cases hc
  | lreturn =>
    simp only [ctl] at hc
    simp only [lkb, decide_eq_true_eq] at hk
    split at hc
    · next _ z =>
      cases hc
      obtain ⟨w, t, rfl, ⟨h3, rfl⟩, hs2⟩ := SR_cons hs
      obtain rfl := SR_nil hs2
      refine ⟨rfl, ?_⟩
      refine vx_ret ?_
      exact W.lret hx hb (hr.trans hk) (fin (some (vl z)) _ rfl ⟨h3, rfl⟩) hS.2.2 hd hlo
    · cases hc
  | areturn =>
    simp only [ctl] at hc
    simp only [lkb, decide_eq_true_eq] at hk
    split at hc
    · next _ q =>
      cases hc
      obtain ⟨w, t, rfl, h3, hs2⟩ := SR_cons hs
      obtain rfl := SR_nil hs2
      refine ⟨rfl, ?_⟩
      refine vx_ret ?_
      cases q with
      | none => obtain rfl := h3; exact W.aret hx hb (hr.trans hk) (Or.inl ⟨_, rfl⟩) (Or.inl rfl) (fin (some (vq none)) _ rfl rfl) hS.2.2 hd hlo
      | some a => obtain ⟨h4, rfl⟩ := h3; exact W.aret hx hb (hr.trans hk) (Or.inl ⟨_, rfl⟩) (Or.inr ⟨_, rfl⟩) (fin (some (vr a)) _ rfl ⟨h4, rfl⟩) hS.2.2 hd hlo
    · cases hc
  | return_ =>
    simp only [ctl] at hc
    simp only [lkb, decide_eq_true_eq] at hk
    split at hc
    · cases hc
      obtain rfl := SR_nil hs
      refine ⟨rfl, ?_⟩
      refine vx_ret ?_
      exact W.vret hx hb (hr.trans hk) (fin none none rfl trivial) hS.2.2 hd hlo
    · cases hc
  | _ => exact absurd hm (by simp)
end SIMR
/-- the handlers: each names a class by a word of the tables -/
theorem HT_ok : ((List.range kN).all fun k => decide ((mH k).length = (HX.getD k []).length) && ((mH k).zip (HX.getD k [])).all fun q => decide (q.1.2.2.2 ≠ 0) && decide (q.2 < 4) && (let w := Cond.classLink (cn (mO k)) q.1.2.2.2 (XN.getD q.2 ""); decide (w ∈ lw_tbl) && pw w)) = true := by decide +kernel
theorem CA_ok : (inT 339 (.castable "java/lang/IllegalStateException" "java/lang/IllegalStateException") && inT 427 (.castable "java/lang/IllegalArgumentException" "java/lang/IllegalArgumentException") && inT 670 (.castable "java/lang/IndexOutOfBoundsException" "java/lang/IndexOutOfBoundsException") && inT 1060 (.castable "java/util/NoSuchElementException" "java/util/NoSuchElementException")) = true := by decide +kernel
