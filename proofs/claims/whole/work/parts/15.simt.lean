/-! ENDS: what a method's run comes to; the four throws. -/
def tvo (n : Nat) (ad : Nat → Nat) (v : Option AV) (w : Option Value) : Prop := match v, w with
  | none, none => True
  | some v, some w => tv n ad v w
  | _, _ => False
def FinR (D : va_G) (cI cL cZ cQ : ClassId) (adX ad : Nat → Nat) (n0 : Nat) (S1 : AS) (A : Nat → Prop) (ad' : Nat → Nat) (t : State) : Prop :=
  (∀ a, a < n0 ∨ 1000000 ≤ a → ad' a = ad a) ∧ n0 ≤ (lay S1).length ∧ Mx D cI cL cZ cQ adX ad' S1 A t.heap t.heap []
def QcF (D : va_G) (cI cL cZ cQ : ClassId) (adX ad : Nat → Nat) (n0 : Nat) (S1 : AS) (A : Nat → Prop) (o : Option AV ⊕ Nat) : Array Value → State → Outcome → State → Prop := fun _ st oc t =>
  ∃ (v : Option AV) (w : Option Value) (ad' : Nat → Nat), o = .inl v ∧ oc = .returned w ∧ tvo (lay S1).length ad' v w ∧ FinR D cI cL cZ cQ adX ad n0 S1 A ad' t ∧ va_F A st t
def XcF (D : va_G) (cI cL cZ cQ : ClassId) (adX ad : Nat → Nat) (n0 : Nat) (S1 : AS) (A : Nat → Prop) (o : Option AV ⊕ Nat) : String → State → State → Prop := fun E st t =>
  ∃ (x : Nat) (ad' : Nat → Nat), o = .inr x ∧ XN[x]? = some E ∧ FinR D cI cL cZ cQ adX ad n0 S1 A ad' t ∧ va_F A st t
theorem Mx.at {D : va_G} {cI cL cZ cQ : ClassId} {adX ad : Nat → Nat} {S : AS} {A : Nat → Prop} {H0 H H1 : Heap} {locs : List Loc} (h : Mx D cI cL cZ cQ adX ad S A H0 H locs) (hk : H.size ≤ H1.size ∧ ∀ q : Nat, q < H.size → H1[q]? = H[q]?) : Mx D cI cL cZ cQ adX ad S A H1 H1 [] := by
  obtain ⟨hP, hDD, hS, r⟩ := h
  exact ⟨hP.kept (fun k q hq => hk.2 _ ((hP k q hq).lt)), hDD, va_S.rf, r⟩
set_option maxRecDepth 100000 in
theorem thW : ((([(306, "java/lang/IndexOutOfBoundsException"), (313, "java/lang/IllegalArgumentException"), (318, "java/lang/IllegalStateException")] : List (Nat × String)).all fun q => (vx_atS "IconSetBuilder" q.1 q.2 ["java/lang/RuntimeException", "java/lang/Exception"]).all fun w => decide (w ∈ lw_tbl) && pw w && vx_ot w)) = true := by decide +kernel
theorem thC : (inT 670 (.classLink "IconSetBuilder" 302 "java/lang/IndexOutOfBoundsException") && inT 427 (.classLink "IconSetBuilder" 309 "java/lang/IllegalArgumentException") && inT 339 (.classLink "IconSetBuilder" 314 "java/lang/IllegalStateException") && inT 1060 (.classLink "IconSetBuilder" 319 "java/util/NoSuchElementException")
  && inT 107 (.initialized "java/lang/IndexOutOfBoundsException") && inT 100 (.initialized "java/lang/IllegalArgumentException") && inT 99 (.initialized "java/lang/IllegalStateException") && inT 109 (.initialized "java/util/NoSuchElementException")) = true := by decide +kernel
section SIMT
variable {p : Program} {l : Launch} {e : Env} {R : Room} {s : State} {m : MethodId} {args : Array Value} {below : List Frame} {meth : Method} {c : Code} {H : Heap} {locs : List Loc} {cells slots : Nat} {Q : State → Prop}
variable {D : va_G} {cI cL cZ cQ : ClassId} {adX ad : Nat → Nat} {X : AX} {k pc len : Nat} {A : Nat → Prop} {I : Instr} {ax : Nat × Nat × Nat} {L L' : ALs} {st st' : List AV} {S S' : AS} {ls : Array Slot} {sv : List Value}
theorem thr_one (C : Cx D cI cL cZ cQ adX X k p R s m args meth c A) (hl : l.stackTraces = false) {ik is ic x sn pk pi : Nat} {cls text : String} (hO : mO k = 8) (hH : mH k = []) (hF : 7 ≤ mF k) (hLo : 103 ≤ mLo k)
    (d0 : decode (mC k) pc = .ok (.new ik, 3)) (d3 : decode (mC k) (pc + 3) = .ok (.dup, 1)) (d4 : decode (mC k) (pc + 4) = .ok (.ldc_w is, 3)) (d7 : decode (mC k) (pc + 7) = .ok (.invokespecial ic, 3)) (d10 : decode (mC k) (pc + 10) = .ok (.athrow, 1))
    (hcls : Bundle.fit cls = true) (hw : ((vx_atS "IconSetBuilder" ic cls ["java/lang/RuntimeException", "java/lang/Exception"]).all fun w => decide (w ∈ lw_tbl) && pw w && vx_ot w) = true)
    (hk : inT pk (.classLink "IconSetBuilder" ik cls) = true) (hi : inT pi (.initialized cls) = true) (hsc : SC[sn]? = some ("IconSetBuilder", is, text)) (hxn : XN[x]? = some cls)
    {ad0 : Nat → Nat} {n0 : Nat} (hag : ∀ a, a < n0 ∨ 1000000 ≤ a → ad a = ad0 a) (hn0 : n0 ≤ (lay S).length)
    (hM : Mx D cI cL cZ cQ adX ad S A s.heap H locs) (hL : LR (lay S).length ad (mL k) L ls) (hs : SR (lay S).length ad st sv) (hsum : (st.map acat).sum ≤ 8) {mc ms : Nat} (hc : cells + 1 ≤ mc) (hsl : slots + 6 ≤ ms) (hmc : mc ≤ R.cells) (hms : ms ≤ R.slots) :
    W p l e R s m args below meth c H locs cells slots (vx_MQ below (QcF D cI cL cZ cQ adX ad0 n0 (thrS S) A (.inr x)) (XcF D cI cL cZ cQ adX ad0 n0 (thrS S) A (.inr x)) args s mc ms A) (F0 m pc ls sv) := by
  obtain ⟨hx, hb, hml, hown, hts, hK, hA, hE, hlo, hr, htab, hnm, hfr, hro⟩ := C
  obtain ⟨hP, hDD, hS, hin, hin6, hrf, hln, hadx, hll⟩ := id hM
  rw [hO] at hown
  have hat : ∀ w ∈ vx_atS "IconSetBuilder" ic cls ["java/lang/RuntimeException", "java/lang/Exception"], w ∈ PW ∧ vx_ot w = true := fun w hw1 => by
    have h1 := List.all_eq_true.mp hw w hw1
    simp only [Bool.and_eq_true, decide_eq_true_eq] at h1
    exact ⟨List.mem_filter.mpr h1.1, h1.2⟩
  have hss := SR_sum _ _ hs
  refine vx_throwSW (names := ["java/lang/RuntimeException", "java/lang/Exception"]) (cls := cls) (text := text) hx hb hl hown hcls (fun n hn => ?_) (PW_hts hts hk) (PW_hts hts hi) (hE.2.1 _ _ hsc) (fun w hw1 => hts w (hat w hw1).1) (fun w hw1 => ?_) hE.2.2.2.1 hE.2.2.2.2.1 hS (by rw [hL.1, hml]) d0 d3 d4 d7 d10
    (fun z hz => by rw [htab, hH] at hz; cases hz) (by show 2 + 3 < _; omega) (by rw [hss]; show _ + (13 * (2 + 1) + 43) ≤ _; omega) (by omega) (by omega) hlo (fun t ht h1 h2 => ?_) hS.2.2 hc hsl
  · rcases List.mem_cons.mp hn with rfl | hn
    · decide +kernel
    · rw [List.mem_singleton.mp hn]; decide +kernel
  · rcases List.mem_cons.mp hw1 with rfl | hw1
    · rfl
    · rcases List.mem_cons.mp hw1 with rfl | hw1
      · rfl
      · exact (hat w hw1).2
  · refine ⟨x, ad, rfl, hxn, ⟨hag, hn0, ?_⟩, ⟨Nat.le_trans hS.1 h1, fun q q1 q2 => by rw [h2 q (Nat.lt_of_lt_of_le q1 hS.1)]; exact hS.2.1 q q1 q2⟩⟩
    exact Mx.at (S := S) hM ⟨h1, h2⟩
/-- NoSuchElementException's constructor with a text has another place in her pool: told apart -/
theorem thr_ns (C : Cx D cI cL cZ cQ adX X k p R s m args meth c A) (hl : l.stackTraces = false) (hO : mO k = 8) (hH : mH k = []) (hF : 7 ≤ mF k) (hLo : 103 ≤ mLo k)
    (d0 : decode (mC k) pc = .ok (.new 319, 3)) (d3 : decode (mC k) (pc + 3) = .ok (.dup, 1)) (d4 : decode (mC k) (pc + 4) = .ok (.ldc_w 321, 3)) (d7 : decode (mC k) (pc + 7) = .ok (.invokespecial 323, 3)) (d10 : decode (mC k) (pc + 10) = .ok (.athrow, 1))
    {ad0 : Nat → Nat} {n0 : Nat} (hag : ∀ a, a < n0 ∨ 1000000 ≤ a → ad a = ad0 a) (hn0 : n0 ≤ (lay S).length)
    (hM : Mx D cI cL cZ cQ adX ad S A s.heap H locs) (hL : LR (lay S).length ad (mL k) L ls) (hs : SR (lay S).length ad st sv) (hsum : (st.map acat).sum ≤ 8) {mc ms : Nat} (hc : cells + 1 ≤ mc) (hsl : slots + 6 ≤ ms) (hmc : mc ≤ R.cells) (hms : ms ≤ R.slots) :
    W p l e R s m args below meth c H locs cells slots (vx_MQ below (QcF D cI cL cZ cQ adX ad0 n0 (thrS S) A (.inr 3)) (XcF D cI cL cZ cQ adX ad0 n0 (thrS S) A (.inr 3)) args s mc ms A) (F0 m pc ls sv) := by
  sorry
theorem sim_t (C : Cx D cI cL cZ cQ adX X k p R s m args meth c A) (hl : l.stackTraces = false) {ik x : Nat} (hT : (k, pc, ik, x) ∈ TL)
    {ad0 : Nat → Nat} {n0 : Nat} (hag : ∀ a, a < n0 ∨ 1000000 ≤ a → ad a = ad0 a) (hn0 : n0 ≤ (lay S).length)
    (hM : Mx D cI cL cZ cQ adX ad S A s.heap H locs) (hL : LR (lay S).length ad (mL k) L ls) (hs : SR (lay S).length ad st sv) (hsum : (st.map acat).sum ≤ 8) {mc ms : Nat} (hc : cells + 1 ≤ mc) (hsl : slots + 6 ≤ ms) (hmc : mc ≤ R.cells) (hms : ms ≤ R.slots) :
    W p l e R s m args below meth c H locs cells slots (vx_MQ below (QcF D cI cL cZ cQ adX ad0 n0 (thrS S) A (.inr x)) (XcF D cI cL cZ cQ adX ad0 n0 (thrS S) A (.inr x)) args s mc ms A) (F0 m pc ls sv) := by
  have hw := List.all_eq_true.mp thW
  have hcw := thC
  simp only [Bool.and_eq_true] at hcw
  obtain ⟨⟨⟨⟨⟨⟨⟨c1, c2⟩, c3⟩, c4⟩, c5⟩, c6⟩, c7⟩, c8⟩ := hcw
  rcases List.mem_cons.mp hT with h | hT
  · cases h
    exact thr_one (sn := 10) C hl (by decide +kernel) (by decide +kernel) (by decide +kernel) (by decide +kernel) (by decide +kernel) (by decide +kernel) (by decide +kernel) (by decide +kernel) (by decide +kernel) (by decide +kernel) (hw (306, _) (by simp)) c1 c5 rfl rfl hag hn0 hM hL hs hsum hc hsl hmc hms
  · rcases List.mem_cons.mp hT with h | hT
    · cases h
      exact thr_one (sn := 9) C hl (by decide +kernel) (by decide +kernel) (by decide +kernel) (by decide +kernel) (by decide +kernel) (by decide +kernel) (by decide +kernel) (by decide +kernel) (by decide +kernel) (by decide +kernel) (hw (313, _) (by simp)) c2 c6 rfl rfl hag hn0 hM hL hs hsum hc hsl hmc hms
    · rcases List.mem_cons.mp hT with h | hT
      · cases h
        exact thr_one (sn := 8) C hl (by decide +kernel) (by decide +kernel) (by decide +kernel) (by decide +kernel) (by decide +kernel) (by decide +kernel) (by decide +kernel) (by decide +kernel) (by decide +kernel) (by decide +kernel) (hw (318, _) (by simp)) c3 c7 rfl rfl hag hn0 hM hL hs hsum hc hsl hmc hms
      · rcases List.mem_cons.mp hT with h | hT
        · cases h
          exact thr_ns C hl (by decide +kernel) (by decide +kernel) (by decide +kernel) (by decide +kernel) (by decide +kernel) (by decide +kernel) (by decide +kernel) (by decide +kernel) (by decide +kernel) hag hn0 hM hL hs hsum hc hsl hmc hms
        · cases hT
end SIMT
