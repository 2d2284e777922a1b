/-! THE LAW'S ENTRY: what the statement gives of the start is what the simulation asks. -/
def S0 : AS := ((fun _ _ => 0, fun _ _ => 0), (([], fun _ _ => none), (0, 0)))
def tmS (i : Nat) : Term := match SC[i]? with
  | some q => .string q.1 q.2.1
  | none => .arg 0
def vF (i : Nat) : Term := .field (tmS i) "java/lang/String" "value" "[B"
theorem vk_S.same {N : Nat} {len : List Nat} {byt : List (List Int32)} {a1 v1 a2 v2 : Nat → Nat} {A : Nat → Prop} {U : State} {H : Heap} (h : vk_S N len byt a1 v1 A U H) (e : ∀ i, i < N → a2 i = a1 i ∧ v2 i = v1 i) : vk_S N len byt a2 v2 A U H := by
  refine ⟨fun i hi => ?_, fun i j hi hj q => ?_⟩
  · rw [(e i hi).1, (e i hi).2]; exact h.1 i hi
  · rw [(e i hi).1, (e j hj).1] at q; exact h.2 i j hi hj q
def FLw : List Cond := flatC (Jvm.Cond.and given_1 narrow_1)
set_option maxRecDepth 100000 in
theorem fl_ok : (NC.all (fun q => decide (Cond.not (.castable q.1 q.2) ∈ FLw))
  && (List.range 12).all (fun i => decide (Cond.exactly (tmS i) "java/lang/String" ∈ FLw))
  && (List.range 8).all (fun i => decide (Cond.eq (.field (tmS i) "java/lang/String" "coder" "B") (.int 0) ∈ FLw) && decide (Cond.arrayOf (vF i) .byte ∈ FLw) && decide (Cond.eq (.length (vF i)) (.int (Int32.ofNat (lenS.getD i 0))) ∈ FLw)
    && (List.range (lenS.getD i 0)).all (fun j => decide (Cond.eq (.elem (vF i) (.int (Int32.ofNat j))) (.int ((bytS.getD i []).getD j 0)) ∈ FLw))
    && (List.range 8).all (fun j => decide (i = j) || decide (Cond.not (Cond.eq (tmS i) (tmS j)) ∈ FLw) || decide (Cond.not (Cond.eq (tmS j) (tmS i)) ∈ FLw)))
  && (List.range 5).all (fun j => decide (Cond.eq (.elem (.static "IconSetBuilder" "EXTRAS_BY_PREFERENCE" "[I") (.int (Int32.ofNat j))) (.int (Int32.ofInt (exs.getD j 0))) ∈ FLw))) = true := by decide +kernel
noncomputable def inW (p : Nat) (w : Cond) : Bool := decide (lw_tbl[p]? = some w)
theorem inW_mem {p : Nat} {w : Cond} (h : inW p w = true) : w ∈ lw_tbl := List.mem_of_getElem? (of_decide_eq_true h)
set_option maxRecDepth 100000 in
theorem fw_ok : (inW 364 (.laysStatic "java/lang/Throwable" "UNASSIGNED_STACK" "[Ljava/lang/StackTraceElement;") && inW 366 (.laysStatic "java/lang/Throwable" "SUPPRESSED_SENTINEL" "Ljava/util/List;") && inW 96 (.initialized "java/lang/Throwable")
  && inW 1082 (.laysStatic "IconSetBuilder" "EXTRAS_BY_PREFERENCE" "[I") && inW 86 (.initialized "IconSetBuilder")
  && inW 1262 (.laysStatic "java/lang/String" "COMPACT_STRINGS" "Z") && inW 103 (.initialized "java/lang/String")
  && inW 1278 (.laysStatic "jdk/internal/util/Preconditions" "SIOOBE_FORMATTER" "Ljava/util/function/BiFunction;") && inW 105 (.initialized "jdk/internal/util/Preconditions")
  && inW 140 (.arrayClass .int) && inW 163 (.arrayClass .long) && inW 1208 (.arrayClass .boolean) && inW 189 (.arrayOver (.object "IconSetBuilder$IconSet"))) = true := by decide +kernel
set_option maxRecDepth 100000 in
theorem fs_ok : ((List.range 12).all fun i => SC.getD i ("", 0, "") |> fun q => decide (Cond.stringRef q.1 q.2.1 q.2.2 ∈ lw_tbl)) = true := by decide +kernel
set_option maxRecDepth 100000 in
theorem fn_ok : (NLk.all fun q => decide (Cond.methodLinkNest (cn q.1) q.2.1 (mY q.2.2.1) "IconSetBuilder" ∈ lw_tbl)) = true := by decide +kernel
def inst : List Nat := [3, 3, 3, 5, 8, 3, 2, 3, 8, 23]
set_option maxRecDepth 100000 in
theorem fi_ok : ((List.range 10).all fun i => (vwCl[i]?).all fun q => decide (Cond.instantiable q.1 (inst.getD i 0) ∈ lw_tbl) && (u_ws q.1 q.2.1 q.2.2).all (fun w => decide (w ∈ lw_tbl))) = true := by decide +kernel
theorem arr_K {args : Array Value} {s : State} {t : FieldType} (h : (Cond.arrayClass t).before args s = true) (ht : t = .int ∨ t = .long ∨ t = .boolean) : ∃ cA, ArrOfT s cA t ∧ va_RA s cA t := by
  obtain ⟨cA, k, comp, h1, h2, h3⟩ := Cond.arrayClass_spec h
  refine ⟨cA, fun n z => ⟨fun k h => (by cases h), k, h2, comp, h3⟩, ?_⟩
  rcases ht with rfl | rfl | rfl <;> exact h1
theorem arr_Q {args : Array Value} {s : State} {C : String} (h : (Cond.arrayOver (.object C)).before args s = true) : ∃ cA, ArrOfT s cA (.object C) ∧ va_RA s cA (.object C) := by
  obtain ⟨comp, cA, k, h1, -, h2, h3, h4⟩ := Cond.arrayOver_spec h
  exact ⟨cA, fun n z => ⟨fun k h => (by cases h), k, h2, comp, h3⟩, k, comp, h2, h3, h1, h4⟩
set_option maxHeartbeats 4000000 in
theorem law_ext {args : Array Value} {s : State} {b L : Nat} {xs : Nat → Int32} (hargs : args = #[Value.ref b]) (hL : L ≤ 3072) (hts : ∀ w ∈ lw_tbl, w.before args s = true) (hX : va_X b L xs s s.heap) (hb : b < s.heap.size) (hg : (Jvm.Cond.and given_1 narrow_1).before args s = true) :
    ∃ (D : va_G) (cI cL cZ cQ : ClassId) (adX : Nat → Nat), adX xScr = b ∧ va_K D vwCl (tys4 cI cL cZ cQ) s ∧ Ext adX (L, fun j => (xs j).toInt) (fun q => s.heap.size ≤ q) s s.heap := by
  have hFL := flat_of_before _ hg
  have hA : ∀ a : Nat, a < s.heap.size → ¬ (s.heap.size ≤ a) := fun a h => Nat.not_le.mpr h
  have h0 := fl_ok
  simp only [Bool.and_eq_true] at h0
  obtain ⟨⟨⟨n1, n2⟩, n3⟩, n4⟩ := h0
  have h1 := fw_ok
  simp only [Bool.and_eq_true] at h1
  obtain ⟨⟨⟨⟨⟨⟨⟨⟨⟨⟨⟨⟨w1, w2⟩, w3⟩, w4⟩, w5⟩, w6⟩, w7⟩, w8⟩, w9⟩, w10⟩, w11⟩, w12⟩, w13⟩ := h1
  have T : ∀ {p : Nat} {w : Cond}, inW p w = true → w.before args s = true := fun h => hts _ (inW_mem h)
  have hD : ∀ c : Nat, ∃ r : ClassId × (Nat → Nat), ∀ q : vw_C, vwCl[c]? = some q → u_Kn s q.1 q.2.1 q.2.2 r.1 r.2 := by
    intro c
    cases hq : vwCl[c]? with
    | none => exact ⟨(0, fun _ => 0), fun q h => by cases h⟩
    | some q =>
      have hc : c < 10 := (List.getElem?_eq_some_iff.mp hq).1
      have h2 := List.all_eq_true.mp fi_ok c (List.mem_range.mpr hc)
      rw [hq, Option.all_some, Bool.and_eq_true, decide_eq_true_eq, List.all_eq_true] at h2
      obtain ⟨cC, iS, hK⟩ := u_known (C := q.1) (T := q.2.1) (N := q.2.2) hts (fun w hw => of_decide_eq_true (h2.2 w hw)) (hts _ h2.1)
      exact ⟨(cC, iS), fun q' h => by cases h; exact hK⟩
  obtain ⟨Df, hDf⟩ := Classical.axiomOfChoice hD
  obtain ⟨cI, kI⟩ := arr_K (T w10) (Or.inl rfl)
  obtain ⟨cL, kL⟩ := arr_K (T w11) (Or.inr (Or.inl rfl))
  obtain ⟨cZ, kZ⟩ := arr_K (T w12) (Or.inr (Or.inr rfl))
  obtain ⟨cQ, kQ⟩ := arr_Q (T w13)
  have s8 := fun (i : Nat) (hi : i < 8) => List.all_eq_true.mp n3 i (List.mem_range.mpr hi)
  simp only [Bool.and_eq_true, decide_eq_true_eq, List.all_eq_true, List.mem_range, Bool.or_eq_true] at s8
  obtain ⟨adK, adV, hS8, hS8e⟩ := vk_Sof (args := args) (s := s) (N := 8) (tm := tmS) (len := lenS) (byt := bytS) (A := fun q => s.heap.size ≤ q)
    (fun i hi => by have : ((List.range 8).all fun i => decide (lenS.getD i 0 < 2 ^ 31)) = true := by decide +kernel
                    exact of_decide_eq_true (List.all_eq_true.mp this i (List.mem_range.mpr hi)))
    (fun i hi => hFL _ (of_decide_eq_true (List.all_eq_true.mp n2 i (List.mem_range.mpr (by omega)))))
    (fun i hi => hFL _ (s8 i hi).1.1.1.1) (fun i hi => hFL _ (s8 i hi).1.1.1.2) (fun i hi => hFL _ (s8 i hi).1.1.2) (fun i hi j hj => hFL _ ((s8 i hi).1.2 j hj))
    (fun i j hi hj hne => by
      rcases (s8 i hi).2 j hj with (h | h) | h
      · exact absurd h hne
      · exact Or.inl (hFL _ h)
      · exact Or.inr (hFL _ h)) hA
  have hS12 : ∀ i : Nat, ∃ a : Nat, i < 12 → (tmS i).eval args s none [] s = some (.ref a) := fun i => by
    by_cases hi : i < 12
    · obtain ⟨a, c, cA, kA, q1, -⟩ := Cond.exactly_spec (args := args) (first := s) (o := none) (s := s) (idx := []) (t := tmS i) (cls := "java/lang/String") (hFL _ (of_decide_eq_true (List.all_eq_true.mp n2 i (List.mem_range.mpr hi))))
      exact ⟨a, fun _ => q1⟩
    · exact ⟨0, fun h => absurd h hi⟩
  obtain ⟨adS, hadS⟩ := Classical.axiomOfChoice hS12
  obtain ⟨tE, htE, hTE⟩ := va_Tof (args := args) (s := s) (tm := .static "IconSetBuilder" "EXTRAS_BY_PREFERENCE" "[I") (ty := .int) (N := 5) (f := fun j => .int (Int32.ofInt (exs.getD j 0))) (A := fun q => s.heap.size ≤ q) (by omega)
    (hFL _ (by decide +kernel)) (va_eqt (hFL _ (by decide +kernel))) (fun j hj => va_eqt (hFL _ (of_decide_eq_true (List.all_eq_true.mp n4 j (List.mem_range.mpr hj))))) hA
  refine ⟨(fun c => (Df c).1, fun c => (Df c).2), cI, cL, cZ, cQ, fun a => if a = xScr then b else if a = xExt then tE else if a < xByt then adS (a - xStr) else adV (a - xByt), if_pos rfl, ⟨fun c q hq => hDf c q hq, fun k q hk => ?_⟩, ?_⟩
  · match k, hk with
    | 0, hk => cases hk; exact kI
    | 1, hk => cases hk; exact kL
    | 2, hk => cases hk; exact kZ
    | 3, hk => cases hk; exact kQ
    | k + 4, hk => cases hk
  have aS : ∀ i, i < 12 → (fun a => if a = xScr then b else if a = xExt then tE else if a < xByt then adS (a - xStr) else adV (a - xByt)) (xStr + i) = adS i := fun i hi => by
    show (if xStr + i = xScr then b else if xStr + i = xExt then tE else if xStr + i < xByt then adS (xStr + i - xStr) else adV (xStr + i - xByt)) = _
    rw [if_neg (by unfold xStr xScr; omega), if_neg (by unfold xStr xExt; omega), if_pos (by unfold xStr xByt; omega), Nat.add_sub_cancel_left]
  have aV : ∀ i, (fun a => if a = xScr then b else if a = xExt then tE else if a < xByt then adS (a - xStr) else adV (a - xByt)) (xByt + i) = adV i := fun i => by
    show (if xByt + i = xScr then b else if xByt + i = xExt then tE else if xByt + i < xByt then adS (xByt + i - xStr) else adV (xByt + i - xByt)) = _
    rw [if_neg (by unfold xByt xScr; omega), if_neg (by unfold xByt xExt; omega), if_neg (by omega), Nat.add_sub_cancel_left]
  have a0 : (fun a => if a = xScr then b else if a = xExt then tE else if a < xByt then adS (a - xStr) else adV (a - xByt)) xScr = b := if_pos rfl
  have a1 : (fun a => if a = xScr then b else if a = xExt then tE else if a < xByt then adS (a - xStr) else adV (a - xByt)) xExt = tE := by
    show (if xExt = xScr then b else if xExt = xExt then tE else _) = _
    rw [if_neg (by decide), if_pos rfl]
  generalize (fun a => if a = xScr then b else if a = xExt then tE else if a < xByt then adS (a - xStr) else adV (a - xByt)) = adX at aS aV a0 a1
  refine ⟨fun q hq => va_Nw.of rfl (hts _ (of_decide_eq_true (List.all_eq_true.mp fn_ok q hq))), fun i q hi => ?_, ?_, vx_Zqof (T w1) (T w3) (hFL _ (by decide +kernel)) hA, vx_Zqof (T w2) (T w3) (hFL _ (by decide +kernel)) hA, ?_, ?_, ?_, fun j => ?_, hL, ?_, ?_, fun q hq => va_Nc.of (hFL _ (of_decide_eq_true (List.all_eq_true.mp n1 q hq))), va_AO.of (T w13)⟩
  · have hi12 : i < 12 := (List.getElem?_eq_some_iff.mp hi).1
    rw [aS i hi12]
    have h2 := of_decide_eq_true (List.all_eq_true.mp fs_ok i (List.mem_range.mpr hi12))
    have h3 : SC.getD i ("", 0, "") = q := by rw [List.getD_eq_getElem?_getD, hi]; rfl
    rw [h3] at h2
    have h4 := hadS i hi12
    have h5 : tmS i = .string q.1 q.2.1 := by unfold tmS; rw [hi]
    rw [h5] at h4
    exact vk_R.of (hts _ h2) h4
  · refine vk_S.same hS8 (fun i hi => ⟨?_, aV i⟩)
    rw [aS i (by omega)]
    have h4 := hadS i (by omega)
    rw [hS8e i hi] at h4
    exact (Value.ref.inj (Option.some.inj h4)).symm
  · rw [a1]; exact va_Zof (T w4) (T w5) htE hA
  · rw [a1]; exact hTE
  · rw [a0]
    obtain ⟨scr, g1, g2, g3, g4, g5⟩ := hX
    refine ⟨scr, g1, g2, g3, Nat.le_of_eq g4.symm, ?_, fun j hj => ?_, hA b hb⟩
    · rw [g4]
    · rw [g5 j hj]
      show _ = some (Value.int (Int32.ofInt (xs j).toInt))
      rw [Int32.ofInt_toInt]
  · show in32 (xs j).toInt
    exact ⟨Int32.le_toInt _, by have := Int32.toInt_lt (xs j); omega⟩
  · exact va_Zof (T w6) (T w7) (va_eqi (hFL _ (by decide +kernel))) hA
  · exact va_Zqof (T w8) (T w9) (hFL _ (by decide +kernel)) hA
/-- from the entry, for every script of at most 3072 ints: the law comes to its end with true, if the abstract machine's run does -/
theorem whole_of_run {p : Program} {e : Env} {s : State} {m : MethodId} {below : List Frame} {meth : Method} {c : Code} (l : Launch) (hflags : l.flags = flags0) {b L : Nat} {xs : Nat → Int32} (hL : L ≤ 3072) (C0 : lw_At p s m meth c b L xs) (htab : ∀ x ∈ c.exceptionTable.toList, False) (hname : meth.name = "law")
    (h : ∀ X : AX, X.1 ≤ 3072 → (∀ j, in32 (X.2 j)) → ∃ n S1, run X n kLaw (0, entL [vr xScr] ++ List.replicate (mL kLaw - (entL [vr xScr]).length) none, []) S0 = some (.inl (some (vi 1)), S1) ∧ S1.2.2.1 ≤ 601024 ∧ S1.2.2.2 ≤ 7293034) :
    W p l e room_1 s m #[Value.ref b] below meth c s.heap [] 0 0 (lw_Z below #[Value.ref b] s) (entryFrame m ([Value.ref b] : List Value).toArray 7) := by
  obtain ⟨h1, h2, h3, h4, h5, hts, hX, hb, hlo, hg⟩ := C0
  obtain ⟨D, cI, cL, cZ, cQ, adX, hb0, hK, hE⟩ := law_ext rfl hL hts hX hb hg
  obtain ⟨n, S1, hrun, hc1, hs1⟩ := h (L, fun j => (xs j).toInt) hL (fun j => hE.2.2.2.2.2.2.2.2.1 j)
  have hst : l.stackTraces = false := by unfold Launch.stackTraces; rw [hflags]; decide +kernel
  have hlaw : kLaw < kN := by decide
  have e1 : mC kLaw = code := by unfold mC; rw [if_pos rfl]
  have e2 : mL kLaw = 7 := by decide +kernel
  have e3 : mR kLaw = ret := by decide +kernel
  have e4 : mH kLaw = [] := by decide +kernel
  have e5 : mY kLaw = ⟨"IconSetBuilderLaw", "law", "([I)Z"⟩ := by decide +kernel
  have e6 : cn (mO kLaw) = R_law := by decide +kernel
  have e7 : mF kLaw ≤ room_1.frames ∧ mLo kLaw ≤ room_1.locals := by decide +kernel
  have C : Cx D cI cL cZ cQ adX (L, fun j => (xs j).toInt) kLaw p room_1 s m #[Value.ref b] meth c (fun q => s.heap.size ≤ q) :=
    ⟨h1, by rw [e1]; exact h2, by rw [e2]; exact h4, by rw [e6]; exact h5, fun w hw => hts w (List.mem_filter.mp hw).1, hK, fun q hq => hq, hE, hlo, by rw [e3]; exact h3,
      by rw [e4]; exact List.eq_nil_iff_forall_not_mem.mpr (fun x hx => htab x hx), by rw [hname, e5], e7.1, e7.2⟩
  have hws : wsOf cI cL cZ cQ adX S0 = [] := rfl
  have hMx : Mx D cI cL cZ cQ adX adX S0 (fun q => s.heap.size ≤ q) s.heap s.heap [] :=
    ⟨fun k q hq => (by rw [hws] at hq; cases hq), ⟨fun i j p q hp => (by rw [hws] at hp; cases hp), fun k q hq => (by rw [hws] at hq; cases hq)⟩, va_S.rf,
      fun a k => ⟨by show (-2147483648 : Int) ≤ 0; omega, by show (0 : Int) ≤ 2147483647; omega⟩, fun a k => ⟨by show (-9223372036854775808 : Int) ≤ 0; omega, by show (0 : Int) ≤ 9223372036854775807; omega⟩,
      fun a k b hb => (by cases hb), fun q hq => (by cases hq), fun a ha => rfl, (by show 0 ≤ 1000000; omega)⟩
  have hsv : SR (lay S0).length adX [vr xScr] [Value.ref b] := ⟨⟨Or.inr (by decide), by rw [hb0]⟩, trivial⟩
  have hen : (entL [vr xScr]).length ≤ mL kLaw := by rw [e2]; decide
  have hW := bod_all (L, fun j => (xs j).toInt) n kLaw _ S0 _ S1 hrun hlaw hst C (ad0 := adX) (ad := adX) (n0 := 0) (H := s.heap) (locs := []) (cells := 0) (slots := 0) (below := below) (e := e) (fun _ _ => rfl) (Nat.zero_le _) hMx (LR_entry hsv hen) (sv := []) trivial (mc := S1.2.2.1) (ms := S1.2.2.2) (c0 := 0) (s0 := 0) rfl rfl rfl rfl hc1 hs1
  rw [← lg_entry_eq, e2] at hW
  refine W_mono (fun t ht => ?_) hW
  obtain ⟨o, r1, r2, r3⟩ := ht
  refine ⟨o, r1, r2, ?_⟩
  rcases r3 with ⟨⟨v, w, ad', ho, hw, htv, -, -⟩, LL, ⟨-, hWm, hsame⟩, hfree⟩ | ⟨q, -, hT⟩
  · cases ho
    match w, htv, hw with
    | some w, htv, hw =>
      obtain ⟨-, rfl⟩ := htv
      exact ⟨hw, ⟨_, hw⟩, hWm, hsame.weaken (fun x hx hlt => absurd (hfree x hx) (Nat.not_le.mpr hlt)) hc1 hs1⟩
  · exfalso
    obtain ⟨E, ce, LL, hx, -⟩ := hT
    obtain ⟨x, ad', ho, -⟩ := hx
    cases ho
