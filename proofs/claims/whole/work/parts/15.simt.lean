/-! ENDS: what a method's run comes to; the four throws. -/
def tvo (n : Nat) (ad : Nat → Nat) (v : Option AV) (w : Option Value) : Prop := match v, w with
  | none, none => True
  | some v, some w => tv n ad v w
  | _, _ => False
def FinR (D : va_G) (cI cL cZ cQ : ClassId) (adX ad : Nat → Nat) (n0 : Nat) (S1 : AS) (A : Nat → Prop) (ad' : Nat → Nat) (t : State) : Prop :=
  (∀ a, a < n0 ∨ 1000000 ≤ a → ad' a = ad a) ∧ n0 ≤ (lay S1).length ∧ Mx D cI cL cZ cQ adX ad' S1 A t.heap t.heap []
def QcF (D : va_G) (cI cL cZ cQ : ClassId) (adX ad : Nat → Nat) (n0 : Nat) (S1 : AS) (A : Nat → Prop) (o : Option AV ⊕ Nat) : Array Value → State → Outcome → State → Prop := fun _ st oc t =>
  ∃ (v : Option AV) (w : Option Value) (ad' : Nat → Nat), o = .inl v ∧ oc = .returned w ∧ tvo (lay S1).length ad' v w ∧ FinR D cI cL cZ cQ adX ad n0 S1 A ad' t ∧ va_F A st t
def XcF (D : va_G) (cI cL cZ cQ : ClassId) (adX ad : Nat → Nat) (n0 : Nat) (S1 : AS) (A : Nat → Prop) (o : Option AV ⊕ Nat) : String → State → State → Prop := fun E st t =>
  ∃ (x : Nat) (ad' : Nat → Nat), o = .inr x ∧ XN[x]? = some E ∧ FinR D cI cL cZ cQ adX ad n0 S1 A ad' t ∧ va_F A st t
theorem Mx.at {D : va_G} {cI cL cZ cQ : ClassId} {adX ad : Nat → Nat} {S : AS} {A : Nat → Prop} {H0 H H1 : Heap} {locs : List Loc} (h : Mx D cI cL cZ cQ adX ad S A H0 H locs) (hk : H.size ≤ H1.size ∧ ∀ q : Nat, q < H.size → H1[q]? = H[q]?) : Mx D cI cL cZ cQ adX ad S A H1 H1 [] := by
  obtain ⟨hP, hDD, hS, r⟩ := h
  exact ⟨hP.kept (fun k q hq => hk.2 _ ((hP k q hq).lt)), hDD, va_S.rf, r⟩
/-- NoSuchElementException's constructor with a text has another place in her pool: told apart -/
def nsX : String := "java/util/NoSuchElementException"
def nsY : String := "java/lang/RuntimeException"
noncomputable def nsT : List Cond := (Bundle.ownAtoms "IconSetBuilder" 320 nsX []).drop (Bundle.throwableAtoms ++ Bundle.throwableSAtoms ++ Bundle.chainSAtoms nsX []).length
noncomputable def nsA : List Cond := Bundle.throwableAtoms ++ Bundle.throwableSAtoms ++ Bundle.passSAtoms nsX nsY 13 prog_29_method_4_code ++ Bundle.chainSAtoms nsY ["java/lang/Exception"] ++ nsT
set_option maxRecDepth 100000 in
theorem nsW : ((nsA.filter vx_no).all fun w => decide (w ∈ lw_tbl) && pw w && vx_ot w) = true := by decide +kernel
theorem nb0 : decode prog_29_method_4_code 0 = .ok (.aload_n 0, 1) := by decide +kernel
theorem nb1 : decode prog_29_method_4_code 1 = .ok (.aload_n 1, 1) := by decide +kernel
theorem nb2 : decode prog_29_method_4_code 2 = .ok (.invokespecial 13, 3) := by decide +kernel
theorem nb5 : decode prog_29_method_4_code 5 = .ok (.return_, 1) := by decide +kernel
section NS
variable {p : Program} {l : Launch} {e : Env} {R : Room} {s : State} {m₀ : MethodId} {args : Array Value} {below : List Frame} {meth : Method} {c : Code} {W : State} {locs : List Loc} {cells slots : Nat}
set_option maxRecDepth 100000 in
set_option maxHeartbeats 4000000 in
theorem nsThrow (X : Stand p l e R s m₀ args below meth c W locs cells slots) (hexec : p.tables.exec = Jvm.exec) (htr : e.platform.stackTraces = false)
    (hown : s.vm.findClass "IconSetBuilder" = some m₀.cls) (h : ∀ a ∈ nsA, a.before args s = true)
    (hlocs : ∀ x ∈ locs, ∀ cell, s.heap[x.base]? = some cell → cell.vm.isStatics = false)
    {a : Addr} {cX : ClassId} {kX : Class} (hfoundX : s.vm.findClass nsX = some cX) (hkX : s.vm.classes[cX]? = some kX) (hcell : W.heap[a]? = some (freshCell cX kX)) (hnew : s.heap.size ≤ a)
    {msg : Value} (hmsg : msg.isRef = true)
    {g : JFrame} (hg : g.method = m₀) (hsize : g.locals.size = c.maxLocals) (hlocked : g.locked = none) (hentered : g.entered = []) {rest : List Value} (hstack : g.stack = msg :: .ref a :: .ref a :: rest)
    (hd6 : decode c.code g.pc = .ok (.invokespecial 320, 3)) (hd9 : decode c.code (g.pc + 3) = .ok (.athrow, 1)) (hout : ∀ x ∈ c.exceptionTable.toList, covers x (g.pc + 3) = false)
    (hRframes : 5 < R.frames) (hRlocals : 2 * g.monitorRoom + ((Value.ref a :: rest).map fun v => v.category).sum + 81 ≤ R.locals) (hlocks : meth.locks = false) :
    ∃ U : State, Steps p.tables e below (W.setTop g) U ∧ U.status = .running ∧ Ended U below (.threw a) ∧ s.WarmedH U.vm ∧ s.sameButNew ({ U with vm := s.vm } : State) locs cells slots ∧
      ∃ ce, U.heap[a]? = some ce ∧ ce.vm = .none ∧ s.vm.findClass nsX = some ce.cls := by
  have howns : e.platform.frameOwnsMonitors = true := by rw [X.admits.platform]
  have hfin : e.platform.finalization = false := by rw [X.admits.platform]
  have hpl : e.platform.magicAccessors = ({} : Platform).magicAccessors := by rw [X.admits.platform]
  have a' : ∀ x, x ∈ nsT → x.holds args s none s [] = true := fun x hx => h x (by unfold nsA; exact List.mem_append_right _ hx)
  have hf1 : Bundle.fit nsX = true := by decide +kernel
  have hf2 : Bundle.fit nsY = true := by decide +kernel
  have hf3 : Bundle.fit "java/lang/Exception" = true := by decide +kernel
  obtain ⟨T, Z0, L, -, Y⟩ := ThrowableC.of_atoms (args := args) howns hfin hpl (fun x hx => h x (by simp [nsA, hx]))
  obtain ⟨Z, M, LZ, LM, hnZ⟩ := Init0T.ofS_atoms (args := args) hpl L Y (fun x hx => h x (by simp [nsA, hx]))
  obtain ⟨P2, Ps, hlen, L2, hL, hP2m, hlink2, hlink⟩ := Bundle.chainS (args := args) hpl hnZ ["java/lang/Exception"] nsY hf2 (fun n hn => by rw [List.mem_singleton.mp hn]; exact hf3) (fun x hx => h x (by simp [nsA, hx]))
  obtain ⟨P1, L1, hP1m, hP1s⟩ := PassC.ofS_atoms (args := args) (s := s) hpl (X := nsX) (Y := nsY) (Bundle.fit_spec hf1).1 (Bundle.fit_spec hf2).2 nb0 nb1 nb2 nb5 (fun x hx => h x (by simp [nsA, hx]))
  have hlink1 : P1.sup = P2.m := Option.some.inj (hP1s.symm.trans hP2m)
  have hfound : s.vm.findClass nsX = some P1.m.cls := findClass_of_methodNamed hP1m
  cases Option.some.inj (hfoundX.symm.trans hfound)
  obtain ⟨c1, kX', hc1, hk, hord, -, -, hn6⟩ := Cond.instantiable_spec (a' (.instantiable nsX 6) (by decide +kernel))
  cases Option.some.inj (hc1.symm.trans hfound)
  cases Option.some.inj (hkX.symm.trans hk)
  have hsel0 : selectMethod e.platform s.vm P1.m.cls T.fill0 = .method T.fill0 := by
    obtain ⟨c2, r2, m2, q1, q2, q3, q4, -⟩ := Cond.selects_spec (a' (.selects nsX Bundle.tFill0 Bundle.tFill0) (by decide +kernel))
    cases Option.some.inj (q1.symm.trans hfound)
    cases Option.some.inj (q2.symm.trans (State.methodFound?_of_named Y.fill0 (by decide)))
    cases Option.some.inj (q3.symm.trans Y.fill0)
    rw [Launch.admits_selectMethod X.admits]; exact q4
  have hselF : selectMethod e.platform s.vm P1.m.cls T.fill = .method T.fill := by
    obtain ⟨c2, r2, m2, q1, q2, q3, q4, -⟩ := Cond.selects_spec (a' (.selects nsX Bundle.tFill Bundle.tFill) (by decide +kernel))
    cases Option.some.inj (q1.symm.trans hfound)
    cases Option.some.inj (q2.symm.trans (State.methodFound?_of_named Y.fill (by decide)))
    cases Option.some.inj (q3.symm.trans Y.fill)
    rw [Launch.admits_selectMethod X.admits]; exact q4
  obtain ⟨cellS0, hcS0, hiss⟩ := Y.statics
  obtain ⟨u0, hu0⟩ := Cond.staticRefV Y.unassigned L.unassignedStatic L.statics hcS0 hiss (a' (.isRef (.static Bundle.tN "UNASSIGNED_STACK" Bundle.steD)) (by decide +kernel))
  obtain ⟨sen, hsen⟩ := Cond.staticRefV Y.sentinel L.sentinelStatic L.statics hcS0 hiss (a' (.isRef (.static Bundle.tN "SUPPRESSED_SENTINEL" Bundle.listD)) (by decide +kernel))
  obtain ⟨ci198, i198, fB, hk198, hg198, ha198, hsB, -, hnB, htB, hffB⟩ := Cond.ownField (t := .object "java/lang/Object") Y.found L.cls (by decide +kernel) (a' (.fieldLink Bundle.tN 198 Bundle.tN "backtrace" "Ljava/lang/Object;") (by decide +kernel)) (a' (.lays Bundle.tN Bundle.tN "backtrace" "Ljava/lang/Object;") (by decide +kernel)) e.platform hpl
  obtain ⟨cellS, hcS', heS, -, hkeep⟩ := X.same.2.2.2.2.2 T.aS cellS0 hcS0
  have hcellS : W.heap[T.aS]? = some cellS := hcS'
  have hout' : ∀ i, (⟨T.aS, i⟩ : Loc) ∉ locs := fun i hmem => by
    have := hlocs _ hmem cellS0 hcS0
    rw [hiss] at this; cases this
  have hknownS : cellS.vm ≠ .unknown := by
    rw [heS]; intro hu
    rw [show cellS0.vm = .unknown from hu] at hiss
    cases hiss
  have hneS : T.aS ≠ a := Nat.ne_of_lt (Nat.lt_of_lt_of_le (Array.getElem?_eq_some_iff.mp hcS0).1 hnew)
  obtain ⟨iM, hffM⟩ := Y.msg
  obtain ⟨tyC, dC, hdC, hdnC⟩ := Cond.laysAt hfound hk Y.cause (a' (.lays nsX Bundle.tN "cause" "Ljava/lang/Throwable;") (by decide +kernel))
  obtain ⟨tyS, dS, hdS, hdnS⟩ := Cond.laysAt hfound hk Y.stack (a' (.lays nsX Bundle.tN "stackTrace" Bundle.steD) (by decide +kernel))
  obtain ⟨tyP, dP, hdP, hdnP⟩ := Cond.laysAt hfound hk Y.supp (a' (.lays nsX Bundle.tN "suppressedExceptions" Bundle.listD) (by decide +kernel))
  obtain ⟨tyM, dM, hdM, hdnM⟩ := Cond.laysAt hfound hk hffM (a' (.lays nsX Bundle.tN "detailMessage" "Ljava/lang/String;") (by decide +kernel))
  obtain ⟨tyB, dB, hdB, hdnB⟩ := Cond.laysAt hfound hk hffB (a' (.lays nsX Bundle.tN "backtrace" "Ljava/lang/Object;") (by decide +kernel))
  have bC := Cond.laysApart hdB hdC hdnB hdnC (by rw [hnB, Y.causeName]; decide)
  have bS := Cond.laysApart hdB hdS hdnB hdnS (by rw [hnB, Y.stackName]; decide)
  have bP := Cond.laysApart hdB hdP hdnB hdnP (by rw [hnB, Y.suppName]; decide)
  have hskip : SkipFacts T e.platform s (fun u => u) u0 ((preparedCellV T.toThrowableT (freshCell P1.m.cls kX) a u0 sen).withEntry W.cur) :=
    ⟨{ ci198 := ci198, i198 := i198, fBack := fB }, ⟨hk198, hg198, ha198, hsB⟩, by
      have := fresh_default (c := P1.m.cls) tyB
      rw [htB] at this
      simpa [preparedCellV, Cell.setSlot, Cell.withEntry, Array.getElem?_setIfInBounds, bC, bS, bP, bC.symm, bS.symm, bP.symm, defaultValue] using this, fun _ _ => rfl⟩
  obtain ⟨tm, methC, cdC, kC, vm₁, hnC, -, -, -, -, -, -, -, hW₁, st1⟩ := Steps.initColdS (tb := p.tables) (e := e) (below := below) (s := s) (U := W) X.here hexec X.warmed hpl hown (t := Bundle.initS nsX) rfl rfl (Bundle.fit_spec hf1).2
    (a' (.methodLink "IconSetBuilder" 320 (Bundle.initS nsX)) (by decide +kernel)) (h (.instanceMethod (Bundle.initS nsX)) (by simp [nsA, Bundle.passSAtoms])) (bytes := prog_29_method_4_code) (maxL := 2) (h (.code (Bundle.initS nsX) prog_29_method_4_code 2 none) (by simp [nsA, Bundle.passSAtoms]))
    (f := g) hg (a := a) (msg := msg) (rest := .ref a :: rest) hstack hd6
  cases Option.some.inj (hnC.symm.trans hP1m)
  have X₁ := X.noted hW₁
  obtain ⟨vm₂, X₂, st2⟩ := X₁.ctorMessageOffV hexec (g := { g with stack := .ref a :: rest }) hg hsize T L Z LZ M LM (P1 :: P2 :: Ps)
    (fun P hP => by rcases List.mem_cons.mp hP with rfl | hP; exact L1; rcases List.mem_cons.mp hP with rfl | hP; exact L2; exact hL P hP) ⟨hlink1, hlink2, hlink⟩ (u0 := u0) (sen := sen) (self := a) hmsg (cell := freshCell P1.m.cls kX) (cellS := cellS)
    hcell (fun _ => by simp) (by simp) rfl rfl hsel0 hselF hcellS hneS hknownS (by rw [hkeep _ (hout' _)]; exact hu0) (by rw [hkeep _ (hout' _)]; exact hsen)
    (Takes.of_laid hk hord tyC (by rw [Y.causeType]; rfl)) (Takes.of_laid hk hord tyS (by rw [Y.stackType]; exact fits_refV_array _ u0)) (Takes.of_laid hk hord tyP (by rw [Y.suppType]; exact fits_refV_object _ sen))
    (Takes.of_laid hk hord tyM (by rw [Y.msgType]; exact fits_refV_object _ ⟨msg, hmsg⟩)) Y.objLocals hskip htr [] hd6
    (by simp only [List.length_cons, hlen, List.length_nil]; omega) (by simp only [List.length_cons, hlen, List.length_nil]; exact hRlocals)
  obtain ⟨hwalk, hrun, hended, hWU, hsame⟩ := X₂.athrowLeaves hexec (g := { g with stack := .ref a :: rest, pc := g.pc + 3 }) hg hlocked hentered hout (a := a) (rest := rest) rfl hd9
  have hlt : a < ((W.setVm vm₁).setVm vm₂).heap.size := (Array.getElem?_eq_some_iff.mp hcell).1
  have hU := heapAt_setCell_self (s := (W.setVm vm₁).setVm vm₂) (plainBareV T.toThrowableT (freshCell P1.m.cls kX) a u0 sen msg) hlt
  refine ⟨_, st1 _ (fun acts => ?_), hrun, hended, hWU, hsame.weaken (fun y hy hlt' => ?_) (Nat.le_refl _) (Nat.le_refl _), _, hU, rfl, hfound⟩
  · rw [doInvoke_state]
    exact st2 _ hwalk
  · rcases List.mem_append.mp hy with h1 | h1
    · exact h1
    · exfalso
      have hb : y.base = a := by
        simp only [List.mem_cons, List.not_mem_nil, or_false] at h1
        rcases h1 with rfl | rfl | rfl | rfl | rfl <;> rfl
      rw [hb] at hlt'
      exact Nat.not_lt.mpr hnew hlt'
end NS
set_option maxRecDepth 100000 in
theorem thW : ((([(303, "java/lang/IndexOutOfBoundsException"), (310, "java/lang/IllegalArgumentException"), (315, "java/lang/IllegalStateException")] : List (Nat × String)).all fun q => (vx_atS "IconSetBuilder" q.1 q.2 ["java/lang/RuntimeException", "java/lang/Exception"]).all fun w => decide (w ∈ lw_tbl) && pw w && vx_ot w)) = true := by decide +kernel
theorem thC : (inT 668 (.classLink "IconSetBuilder" 299 "java/lang/IndexOutOfBoundsException") && inT 425 (.classLink "IconSetBuilder" 306 "java/lang/IllegalArgumentException") && inT 337 (.classLink "IconSetBuilder" 311 "java/lang/IllegalStateException") && inT 1058 (.classLink "IconSetBuilder" 316 "java/util/NoSuchElementException")
  && inT 107 (.initialized "java/lang/IndexOutOfBoundsException") && inT 100 (.initialized "java/lang/IllegalArgumentException") && inT 99 (.initialized "java/lang/IllegalStateException") && inT 109 (.initialized "java/util/NoSuchElementException")) = true := by decide +kernel
section SIMT
variable {p : Program} {l : Launch} {e : Env} {R : Room} {s : State} {m : MethodId} {args : Array Value} {below : List Frame} {meth : Method} {c : Code} {H : Heap} {locs : List Loc} {cells slots : Nat} {Q : State → Prop}
variable {D : va_G} {cI cL cZ cQ : ClassId} {adX ad : Nat → Nat} {X : AX} {k pc len : Nat} {A : Nat → Prop} {I : Instr} {ax : Nat × Nat × Nat} {L L' : ALs} {st st' : List AV} {S S' : AS} {ls : Array Slot} {sv : List Value}
theorem thr_one (C : Cx D cI cL cZ cQ adX X k p R s m args meth c A) (hl : l.stackTraces = false) {ik is ic x sn pk pi : Nat} {cls text : String} (hO : mO k = 8) (hH : mH k = []) (hF : 7 ≤ mF k) (hLo : 103 ≤ mLo k)
    (d0 : decode (mC k) pc = .ok (.new ik, 3)) (d3 : decode (mC k) (pc + 3) = .ok (.dup, 1)) (d4 : decode (mC k) (pc + 4) = .ok (.ldc_w is, 3)) (d7 : decode (mC k) (pc + 7) = .ok (.invokespecial ic, 3)) (d10 : decode (mC k) (pc + 10) = .ok (.athrow, 1))
    (hcls : Bundle.fit cls = true) (hw : ((vx_atS "IconSetBuilder" ic cls ["java/lang/RuntimeException", "java/lang/Exception"]).all fun w => decide (w ∈ lw_tbl) && pw w && vx_ot w) = true)
    (hk : inT pk (.classLink "IconSetBuilder" ik cls) = true) (hi : inT pi (.initialized cls) = true) (hsc : SC[sn]? = some ("IconSetBuilder", is, text)) (hxn : XN[x]? = some cls)
    {ad0 : Nat → Nat} {n0 : Nat} (hag : ∀ a, a < n0 ∨ 1000000 ≤ a → ad a = ad0 a) (hn0 : n0 ≤ (lay S).length)
    (hM : Mx D cI cL cZ cQ adX ad S A s.heap H locs) (hL : LR (lay S).length ad (mL k) L ls) (hs : SR (lay S).length ad st sv) (hsum : (st.map acat).sum ≤ 8) {mc ms : Nat} (hc : cells + 1 ≤ mc) (hsl : slots + 6 ≤ ms) (hmc : mc ≤ R.cells) (hms : ms ≤ R.slots) :
    W p l e R s m args below meth c H locs cells slots (vx_MQ below (QcF D cI cL cZ cQ adX ad0 n0 (thrS S) A (.inr x)) (XcF D cI cL cZ cQ adX ad0 n0 (thrS S) A (.inr x)) args s mc ms A) (F0 m pc ls sv) := by
  obtain ⟨hx, hb, hml, hown, hts, hK, hA, hE, hlo, hr, htab, hnm, hfr, hro⟩ := C
  obtain ⟨hP, hDD, hS, hin, hin6, hrf, hln, hadx, hll⟩ := id hM
  rw [hO] at hown
  have hat : ∀ w ∈ vx_atS "IconSetBuilder" ic cls ["java/lang/RuntimeException", "java/lang/Exception"], w ∈ PW ∧ vx_ot w = true := fun w hw1 => by
    have h1 := List.all_eq_true.mp hw w hw1
    simp only [Bool.and_eq_true, decide_eq_true_eq] at h1
    exact ⟨List.mem_filter.mpr h1.1, h1.2⟩
  have hss := SR_sum _ _ hs
  refine vx_throwSW (names := ["java/lang/RuntimeException", "java/lang/Exception"]) (cls := cls) (text := text) hx hb hl hown hcls (fun n hn => ?_) (PW_hts hts hk) (PW_hts hts hi) (hE.2.1 _ _ hsc) (fun w hw1 => hts w (hat w hw1).1) (fun w hw1 => ?_) hE.2.2.2.1 hE.2.2.2.2.1 hS (by rw [hL.1, hml]) d0 d3 d4 d7 d10
    (fun z hz => by rw [htab, hH] at hz; cases hz) (by show 2 + 3 < _; omega) (by rw [hss]; show _ + (13 * (2 + 1) + 43) ≤ _; omega) (by omega) (by omega) hlo (fun t ht h1 h2 => ?_) hS.2.2 hc hsl
  · rcases List.mem_cons.mp hn with rfl | hn
    · decide +kernel
    · rw [List.mem_singleton.mp hn]; decide +kernel
  · rcases List.mem_cons.mp hw1 with rfl | hw1
    · rfl
    · rcases List.mem_cons.mp hw1 with rfl | hw1
      · rfl
      · exact (hat w hw1).2
  · refine ⟨x, ad, rfl, hxn, ⟨hag, hn0, ?_⟩, ⟨Nat.le_trans hS.1 h1, fun q q1 q2 => by rw [h2 q (Nat.lt_of_lt_of_le q1 hS.1)]; exact hS.2.1 q q1 q2⟩⟩
    exact Mx.at (S := S) hM ⟨h1, h2⟩
set_option maxHeartbeats 4000000 in
theorem thr_ns (C : Cx D cI cL cZ cQ adX X k p R s m args meth c A) (hl : l.stackTraces = false) (hO : mO k = 8) (hH : mH k = []) (hF : 7 ≤ mF k) (hLo : 103 ≤ mLo k)
    (d0 : decode (mC k) pc = .ok (.new 316, 3)) (d3 : decode (mC k) (pc + 3) = .ok (.dup, 1)) (d4 : decode (mC k) (pc + 4) = .ok (.ldc_w 318, 3)) (d7 : decode (mC k) (pc + 7) = .ok (.invokespecial 320, 3)) (d10 : decode (mC k) (pc + 10) = .ok (.athrow, 1))
    {ad0 : Nat → Nat} {n0 : Nat} (hag : ∀ a, a < n0 ∨ 1000000 ≤ a → ad a = ad0 a) (hn0 : n0 ≤ (lay S).length)
    (hM : Mx D cI cL cZ cQ adX ad S A s.heap H locs) (hL : LR (lay S).length ad (mL k) L ls) (hs : SR (lay S).length ad st sv) (hsum : (st.map acat).sum ≤ 8) {mc ms : Nat} (hc : cells + 1 ≤ mc) (hsl : slots + 6 ≤ ms) (hmc : mc ≤ R.cells) (hms : ms ≤ R.slots) :
    W p l e R s m args below meth c H locs cells slots (vx_MQ below (QcF D cI cL cZ cQ adX ad0 n0 (thrS S) A (.inr 3)) (XcF D cI cL cZ cQ adX ad0 n0 (thrS S) A (.inr 3)) args s mc ms A) (F0 m pc ls sv) := by
  obtain ⟨hexec, hb, hml, hown, hts, hK, hA9, hE, hlo, hr, htab, hnm, hfr, hro⟩ := C
  obtain ⟨hP, hDD, hS, hin, hin6, hrf, hln, hadx, hll⟩ := id hM
  rw [hO] at hown
  have hown : s.vm.findClass "IconSetBuilder" = some m.cls := hown
  have hss := SR_sum _ _ hs
  have hlsz : ls.size = c.maxLocals := by rw [hL.1, hml]
  have hat : ∀ w ∈ nsA.filter vx_no, w.before args s = true ∧ vx_ot w = true := fun w hw1 => by
    have h1 := List.all_eq_true.mp nsW w hw1
    simp only [Bool.and_eq_true, decide_eq_true_eq] at h1
    exact ⟨hts _ (List.mem_filter.mpr h1.1), h1.2⟩
  have hcw := thC
  simp only [Bool.and_eq_true] at hcw
  obtain ⟨⟨⟨⟨⟨⟨⟨c1, c2⟩, c3⟩, c4⟩, c5⟩, c6⟩, c7⟩, c8⟩ := hcw
  have hk : (Cond.classLink "IconSetBuilder" 316 nsX).before args s = true := PW_hts hts c4
  have hini : (Cond.initialized nsX).before args s = true := PW_hts hts c8
  have hstr : vk_R "IconSetBuilder" 318 "there are no icons" (adX (xStr + 11)) s := hE.2.1 11 _ rfl
  have hU : vx_Zq Bundle.tN "UNASSIGNED_STACK" Bundle.steD A s s.heap := hE.2.2.2.1
  have hN : vx_Zq Bundle.tN "SUPPRESSED_SENTINEL" Bundle.listD A s s.heap := hE.2.2.2.2.1
  intro T hT X
  have htr : e.platform.stackTraces = false := (show e.platform.stackTraces = l.stackTraces by rw [X.admits.platform]).trans hl
  have Y := vx_rebase X (R' := { frames := R.frames, locals := R.locals, cells := 1, slots := 6 }) (Nat.le_refl _) (Nat.le_refl _) (show cells + 1 ≤ R.cells by omega) (show slots + 6 ≤ R.slots by omega)
  obtain ⟨s', hA⟩ : ∃ z, z = (T.setVm s.vm).setFrames (.invoking m args :: below) := ⟨_, rfl⟩
  rw [← hA] at Y
  have hvm : s'.vm = s.vm := by rw [hA]; rfl
  have hhp : s'.heap = H := by rw [hA]; exact hT
  have hW0 : s.WarmedH s'.vm := by rw [hvm]; exact State.WarmedH.refl s
  have hat' : ∀ w ∈ nsA.filter vx_no, w.before args s' = true := fun w hw => vx_ot_at hW0 hvm.symm (hat w hw).2 (hat w hw).1
  have hk' : (Cond.classLink "IconSetBuilder" 316 nsX).before args s' = true := vx_ot_at hW0 hvm.symm rfl hk
  have hini' : (Cond.initialized nsX).before args s' = true := vx_ot_at hW0 hvm.symm rfl hini
  have hU' : vx_Zq Bundle.tN "UNASSIGNED_STACK" Bundle.steD A s' s'.heap := by rw [hhp]; exact vx_Zq.moved hW0.alike (hU.kept hS.2.1)
  have hN' : vx_Zq Bundle.tN "SUPPRESSED_SENTINEL" Bundle.listD A s' s'.heap := by rw [hhp]; exact vx_Zq.moved hW0.alike (hN.kept hS.2.1)
  have h : ∀ w ∈ nsA, w.before args s' = true := vx_own hat' (vx_isRefq hU'.1) (vx_isRefq hN'.1) hU'.2.word hN'.2.word
  have hown' : s'.vm.findClass "IconSetBuilder" = some m.cls := by rw [hvm]; exact hown
  have hins : (Cond.instantiable nsX 6).before args s' = true := h _ (by unfold nsA; exact List.mem_append_right _ (by decide +kernel))
  obtain ⟨vm₁, cX, kX, hfX, hkX, -, -, X₁, st1⟩ := Y.newCold hexec (own := "IconSetBuilder") (C := nsX) (index := 316) (n := 6) hown' hk' hins hini'
    (g := F0 m pc ls sv) rfl (by rw [hb]; exact d0) (Nat.le_refl _) (Nat.le_refl _)
  generalize hT1 : (T.setVm vm₁).pushCell { cls := cX, slots := kX.instanceTypes.map defaultValue, vm := .none } = T1 at X₁ st1
  have hcat : (Value.ref T.heap.size).category = 1 := rfl
  have hcellA : T1.heap[T.heap.size]? = some (freshCell cX kX) := by rw [← hT1]; exact State.heap_pushCell_size _ _
  have d3' : decode c.code (pc + 3) = .ok (.dup, 1) := by rw [hb]; exact d3
  have d4' : decode c.code (pc + 4) = .ok (.ldc_w 318, 3) := by rw [hb]; exact d4
  have hstr' : vk_R "IconSetBuilder" 318 "there are no icons" (adX (xStr + 11)) s' := vk_R.warm hW0 hstr
  obtain ⟨U, hsteps, hrun, hend, hW, hsame, ce, hce, hcv, hO9⟩ := nsThrow X₁ hexec htr hown' h (fun x hx => nomatch hx) hfX hkX hcellA (by rw [hhp, hT]; exact Nat.le_refl _) (msg := .ref (adX (xStr + 11))) rfl
    (g := { method := m, pc := pc + 7, locals := ls, stack := .ref (adX (xStr + 11)) :: .ref T.heap.size :: .ref T.heap.size :: sv, locked := none }) rfl hlsz rfl rfl (rest := sv) rfl
    (by rw [hb]; exact d7) (by rw [hb]; exact d10) (fun z hz => by rw [htab, hH] at hz; cases hz) (show 5 < R.frames by omega) (by
      show 2 * 0 + _ + 81 ≤ R.locals
      simp only [List.map_cons, List.sum_cons, hcat]; rw [hss]; omega) hlo
  obtain ⟨f1, f2⟩ := vx_frame hsame
  rw [hhp] at f1 f2
  have hWs : s.WarmedH U.vm := State.WarmedH.trans hW0 hW
  have hcl : s.vm.findClass nsX = some ce.cls := by
    rw [hvm] at hO9
    exact hO9
  have hall : s.sameButNew ({ U with vm := s.vm } : State) locs mc ms := by
    subst hA
    obtain ⟨e1, e2⟩ := hsame
    rw [State.setFrames_setFrames] at e1
    have h2 : (T.setVm s.vm).sameButNew ({ U with vm := s.vm } : State) [] (0 + 1) (0 + 6) := ⟨e1, e2⟩
    have h3 := X.same.trans h2
    rw [List.append_nil] at h3
    exact h3.mono hc hsl
  have hx9 : XcF D cI cL cZ cQ adX ad0 n0 (thrS S) A (.inr 3) nsX s U := by
    have h1 : H.size ≤ U.heap.size := f1
    have h2 : ∀ q : Nat, q < H.size → U.heap[q]? = H[q]? := fun q hq => f2 q hq (fun z hz => nomatch hz)
    refine ⟨3, ad, rfl, rfl, ⟨hag, hn0, ?_⟩, ⟨Nat.le_trans hS.1 h1, fun q q1 q2 => by rw [h2 q (Nat.lt_of_lt_of_le q1 hS.1)]; exact hS.2.1 q q1 q2⟩⟩
    exact Mx.at (S := S) hM ⟨h1, h2⟩
  refine ⟨U, ?_, .threw T.heap.size, hrun, hend, Or.inr ⟨T.heap.size, rfl, nsX, ce, locs, hx9, hce, hcv, hcl, hWs, hall, hS.2.2⟩⟩
  refine st1 _ ?_
  show Steps p.tables e below (T1.setTop { method := m, pc := pc + 3, locals := ls, stack := .ref T.heap.size :: sv, locked := none }) _
  jvm_step X₁.here [X₁.here.top, hexec, d3', Value.category]
  exact X₁.ldcStringW hexec (own := "IconSetBuilder") (text := "there are no icons") (index := 318) (a := adX (xStr + 11)) hown' hstr'.1 hstr'.2
    (g := { method := m, pc := pc + 4, locals := ls, stack := .ref T.heap.size :: .ref T.heap.size :: sv, locked := none }) rfl d4' _ hsteps
theorem sim_t (C : Cx D cI cL cZ cQ adX X k p R s m args meth c A) (hl : l.stackTraces = false) {ik x : Nat} (hT : (k, pc, ik, x) ∈ TL)
    {ad0 : Nat → Nat} {n0 : Nat} (hag : ∀ a, a < n0 ∨ 1000000 ≤ a → ad a = ad0 a) (hn0 : n0 ≤ (lay S).length)
    (hM : Mx D cI cL cZ cQ adX ad S A s.heap H locs) (hL : LR (lay S).length ad (mL k) L ls) (hs : SR (lay S).length ad st sv) (hsum : (st.map acat).sum ≤ 8) {mc ms : Nat} (hc : cells + 1 ≤ mc) (hsl : slots + 6 ≤ ms) (hmc : mc ≤ R.cells) (hms : ms ≤ R.slots) :
    W p l e R s m args below meth c H locs cells slots (vx_MQ below (QcF D cI cL cZ cQ adX ad0 n0 (thrS S) A (.inr x)) (XcF D cI cL cZ cQ adX ad0 n0 (thrS S) A (.inr x)) args s mc ms A) (F0 m pc ls sv) := by
  have hw := List.all_eq_true.mp thW
  have hcw := thC
  simp only [Bool.and_eq_true] at hcw
  obtain ⟨⟨⟨⟨⟨⟨⟨c1, c2⟩, c3⟩, c4⟩, c5⟩, c6⟩, c7⟩, c8⟩ := hcw
  rcases List.mem_cons.mp hT with h | hT
  · cases h
    exact thr_one (sn := 10) C hl (by decide +kernel) (by decide +kernel) (by decide +kernel) (by decide +kernel) (by decide +kernel) (by decide +kernel) (by decide +kernel) (by decide +kernel) (by decide +kernel) (by decide +kernel) (hw (303, _) (by simp)) c1 c5 rfl rfl hag hn0 hM hL hs hsum hc hsl hmc hms
  · rcases List.mem_cons.mp hT with h | hT
    · cases h
      exact thr_one (sn := 9) C hl (by decide +kernel) (by decide +kernel) (by decide +kernel) (by decide +kernel) (by decide +kernel) (by decide +kernel) (by decide +kernel) (by decide +kernel) (by decide +kernel) (by decide +kernel) (hw (310, _) (by simp)) c2 c6 rfl rfl hag hn0 hM hL hs hsum hc hsl hmc hms
    · rcases List.mem_cons.mp hT with h | hT
      · cases h
        exact thr_one (sn := 8) C hl (by decide +kernel) (by decide +kernel) (by decide +kernel) (by decide +kernel) (by decide +kernel) (by decide +kernel) (by decide +kernel) (by decide +kernel) (by decide +kernel) (by decide +kernel) (hw (315, _) (by simp)) c3 c7 rfl rfl hag hn0 hM hL hs hsum hc hsl hmc hms
      · rcases List.mem_cons.mp hT with h | hT
        · cases h
          exact thr_ns C hl (by decide +kernel) (by decide +kernel) (by decide +kernel) (by decide +kernel) (by decide +kernel) (by decide +kernel) (by decide +kernel) (by decide +kernel) (by decide +kernel) hag hn0 hM hL hs hsum hc hsl hmc hms
        · cases hT
end SIMT
