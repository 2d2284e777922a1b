/-! CALLS: a callee's contract out of its run; the run of a call. -/
noncomputable def wsk (k : Nat) : List Cond := codeW k :: PW
noncomputable def rmk (k mc ms : Nat) : Room := { frames := mF k, cells := mc, slots := ms, locals := mLo k }
def AK (ad : Nat → Nat) (n sz : Nat) : Nat → Prop := fun q => (∃ a, a < n ∧ q = ad a) ∨ sz ≤ q
def PcF (D : va_G) (cI cL cZ cQ : ClassId) (adX : Nat → Nat) (X : AX) (ad : Nat → Nat) (S : AS) (as : List AV) (sz : Nat) : Array Value → State → Prop := fun v U =>
  (∃ sv : List Value, v = sv.toArray ∧ SR (lay S).length ad as sv) ∧ U.heap.size = sz ∧ Mx D cI cL cZ cQ adX ad S (AK ad (lay S).length sz) U.heap U.heap [] ∧ va_K D vwCl (tys4 cI cL cZ cQ) U ∧ Ext adX X (AK ad (lay S).length sz) U U.heap
def Bod (X : AX) (n : Nat) : Prop := ∀ (k : Nat) (fr : AF) (S : AS) (o : Option AV ⊕ Nat) (S1 : AS), run X n k fr S = some (o, S1) → k < kN →
  ∀ {p : Program} {l : Launch} {e : Env} {R : Room} {s : State} {m : MethodId} {args : Array Value} {below : List Frame} {meth : Method} {c : Code} {D : va_G} {cI cL cZ cQ : ClassId} {adX : Nat → Nat} {A : Nat → Prop}, l.stackTraces = false → Cx D cI cL cZ cQ adX X k p R s m args meth c A →
  ∀ {ad0 ad : Nat → Nat} {n0 : Nat} {H : Heap} {locs : List Loc} {cells slots : Nat} {ls : Array Slot} {sv : List Value} {mc ms c0 s0 : Nat}, (∀ a, a < n0 ∨ 1000000 ≤ a → ad a = ad0 a) → n0 ≤ (lay S).length → Mx D cI cL cZ cQ adX ad S A s.heap H locs → LR (lay S).length ad (mL k) fr.2.1 ls → SR (lay S).length ad fr.2.2 sv →
  cells + c0 = S.2.2.1 → slots + s0 = S.2.2.2 → mc + c0 = S1.2.2.1 → ms + s0 = S1.2.2.2 → mc ≤ R.cells → ms ≤ R.slots →
  W p l e R s m args below meth c H locs cells slots (vx_MQ below (QcF D cI cL cZ cQ adX ad0 n0 S1 A o) (XcF D cI cL cZ cQ adX ad0 n0 S1 A o) args s mc ms A) (F0 m fr.1 ls sv)
def MetN (X : AX) (n : Nat) : Prop := ∀ (j : Nat) (as : List AV) (S : AS) (o : Option AV ⊕ Nat) (S2 : AS), run X n j (0, entL as ++ List.replicate (mL j - (entL as).length) none, []) S = some (o, S2) → (entL as).length ≤ mL j → j < kN → j ≠ kLaw →
  ∀ {l : Launch} (D : va_G) (cI cL cZ cQ : ClassId) (adX ad : Nat → Nat) (sz mc ms : Nat), l.stackTraces = false → mc + S.2.2.1 = S2.2.2.1 → ms + S.2.2.2 = S2.2.2.2 →
  vx_Met l (mY j) (wsk j) (rmk j mc ms) (PcF D cI cL cZ cQ adX X ad S as sz) (QcF D cI cL cZ cQ adX ad (lay S).length S2 (AK ad (lay S).length sz) o) (XcF D cI cL cZ cQ adX ad (lay S).length S2 (AK ad (lay S).length sz) o) mc ms (AK ad (lay S).length sz)
theorem codeW_pw (k : Nat) : pw (codeW k) = true := by
  unfold codeW
  split <;> rfl
theorem mw_facts {j : Nat} (hj : j < kN) (hl : j ≠ kLaw) : codeW j ∈ PW ∧ (mG j = 1 → Cond.static (mY j) ∈ PW) ∧ (mG j ≠ 1 → Cond.instanceMethod (mY j) ∈ PW) ∧ (mG j = 0 → Cond.selects (cn (mO j)) (mY j) (mY j) ∈ PW) ∧ Cond.initialized (mY j).cls ∈ PW ∧ (mY j).cls = cn (mO j) ∧ (mG j = 2 → (mY j).name = "<init>") ∧ (∀ sig, parseMethodDescriptor (mY j).desc = some sig → mA j = sig.parameters.length) ∧ ((mY j).cls ≠ "java/lang/invoke/MethodHandle" ∧ (mY j).cls ≠ "java/lang/invoke/VarHandle") ∧ plainFor (mY j) = true := by
  have h := MW_ok j hj hl
  unfold mwOk at h
  simp only [Bool.and_eq_true, decide_eq_true_eq] at h
  obtain ⟨⟨⟨⟨⟨⟨⟨⟨h1, h2⟩, h3⟩, h4⟩, h5⟩, h6⟩, h7⟩, h8⟩, h9⟩ := h
  refine ⟨?_, fun q => ?_, fun q => ?_, fun q => ?_, inT_mem h4, h5, fun q => ?_, fun sig hs => ?_, h8, h9⟩
  · refine List.mem_filter.mpr ⟨?_, codeW_pw j⟩
    have hl9 : j ≠ kLaw := hl
    unfold cwOk at h1
    split at h1
    · next y b l r hw =>
      rw [decide_eq_true_eq] at h1
      obtain ⟨e1, rfl, rfl, rfl⟩ := h1
      unfold codeW
      rw [if_pos e1]
      have : mC j = b := by unfold mC; rw [if_neg hl9, hw]; rfl
      rw [this]
      exact List.mem_of_getElem? hw
    · next y b l r hh hw =>
      rw [decide_eq_true_eq] at h1
      obtain ⟨e1, rfl, rfl, rfl, rfl⟩ := h1
      unfold codeW
      rw [if_neg e1]
      have : mC j = b := by unfold mC; rw [if_neg hl9, hw]; rfl
      rw [this]
      exact List.mem_of_getElem? hw
    · cases h1
  · rw [if_pos q] at h2; exact inT_mem h2
  · rw [if_neg q] at h2; exact inT_mem h2
  · rw [if_pos q] at h3; exact inT_mem h3
  · rw [if_pos q, decide_eq_true_eq] at h6; exact h6
  · rw [hs] at h7; exact (Option.some.inj h7).symm
theorem PcF_blind {D : va_G} {cI cL cZ cQ : ClassId} {adX : Nat → Nat} {X : AX} {ad : Nat → Nat} {S : AS} {as : List AV} {sz : Nat} : FrameBlind (PcF D cI cL cZ cQ adX X ad S as sz) := by
  intro a U g mk h
  obtain ⟨h1, h2, h3, h4, h5⟩ := h
  exact ⟨h1, h2, h3, va_K.moved (u := U) (U := U.calling g mk a) (Vm.Alike.refl U.vm) h4, Ext.call (s := U) (U := U.calling g mk a) (A := AK ad (lay S).length sz) h5 va_S.rf (State.WarmedH.refl U) (fun _ h => h)⟩
theorem met_of_bod {X : AX} {n : Nat} (hB : Bod X n) : MetN X n := by
  intro j as S o S2 hrun hen hj hjl l D cI cL cZ cQ adX ad sz mc ms hl hmc hms
  obtain ⟨f1, f2, f3, f4, f5, f6, f7, f8, f9, f10⟩ := mw_facts hj hjl
  refine MetFree.of_bodySF (code := mC j) (maxLocals := mL j) (ret := mR j) f10 ?_ ?_
  · intro args s m h hn
    have hw : (codeW j).before args s = true := atoms_spec (ws := wsk j) h _ List.mem_cons_self
    unfold codeW at hw
    split at hw
    · obtain ⟨meth, c, h1, h2, h3, h4, h5, h6, -, -⟩ := Cond.code_spec hn hw
      exact ⟨meth, c, h1, h2, h3, h4, h5, h6⟩
    · obtain ⟨m9, meth, c, hn9, h1, h2, h3, h4, -, h5, h6, -⟩ := Cond.codeWith_spec hw
      cases hn.symm.trans hn9
      exact ⟨meth, c, h1, h2, h3, h4, h5, h6⟩
  · intro p e s m args below meth c s₁ B hml hP _
    have hh0 : s₁.heap = s.heap := by rw [B.state]; rfl
    obtain ⟨⟨sv, rfl, hsv⟩, hsz, hMx, hK, hE⟩ := hP
    have hts0 := atoms_spec (ws := wsk j) B.pre
    have htab : c.exceptionTable.toList = tableOf (mH j) := by
      have hw : (codeW j).before sv.toArray s = true := hts0 _ List.mem_cons_self
      unfold codeW at hw
      split at hw
      · next hH =>
        obtain ⟨meth9, c9, h1, h2, -, -, -, -, h7, -⟩ := Cond.code_spec B.named hw
        cases Option.some.inj (h1.symm.trans B.method)
        cases Option.some.inj (h2.symm.trans (Stand.of_body B).code)
        rw [Array.isEmpty_iff.mp h7, hH]
        rfl
      · exact vx_table (x := mY j) B hw
    have C : Cx D cI cL cZ cQ adX X j p (headSpec (wsk j) (rmk j mc ms)).room s m sv.toArray meth c (AK ad (lay S).length sz) :=
      ⟨B.exec, B.bytes, hml, by rw [← f6]; exact findClass_of_methodNamed B.named, fun w hw => hts0 w (List.mem_cons_of_mem _ hw), hK, fun q h => Or.inr (by rw [← hsz]; exact h), hE, B.notSynchronized, B.returns, htab, (name_of_methodNamed B.named B.method).1, Nat.le_refl _, Nat.le_refl _⟩
    have hW := hB j _ S o S2 hrun hj hl C (ad0 := ad) (ad := ad) (n0 := (lay S).length) (H := s.heap) (locs := []) (cells := 0) (slots := 0) (below := below) (e := e) (fun _ _ => rfl) (Nat.le_refl _) hMx (LR_entry hsv hen) (sv := []) trivial (c0 := S.2.2.1) (s0 := S.2.2.2) (Nat.zero_add _) (Nat.zero_add _) hmc hms (Nat.le_refl _) (Nat.le_refl _)
    rw [← lg_entry_eq] at hW
    obtain ⟨t, a1, o, b1, b2, b3⟩ := hW s₁ hh0 (Stand.of_body B)
    exact ⟨t, o, a1, b1, b2, b3⟩
section SIMZ
variable {p : Program} {l : Launch} {e : Env} {R : Room} {s : State} {m : MethodId} {args : Array Value} {below : List Frame} {meth : Method} {c : Code} {H : Heap} {locs : List Loc} {cells slots : Nat} {Q : State → Prop}
variable {D : va_G} {cI cL cZ cQ : ClassId} {adX ad : Nat → Nat} {X : AX} {k pc len n : Nat} {A : Nat → Prop} {I : Instr} {ax : Nat × Nat × Nat} {L L' : ALs} {st st' : List AV} {S S' S2 : AS} {ls : Array Slot} {sv : List Value}
theorem ws_addr {q : Nat} {x : Nat × va_E} (h : (wsOf cI cL cZ cQ ad S)[q]? = some x) : q < (lay S).length ∧ x.1 = ad q := by
  unfold wsOf at h
  rw [List.getElem?_mapIdx] at h
  obtain ⟨r, h1, rfl⟩ := Option.map_eq_some_iff.mp h
  exact ⟨(List.getElem?_eq_some_iff.mp h1).1, rfl⟩
theorem Mx_AK (hM : Mx D cI cL cZ cQ adX ad S A s.heap H locs) {H1 : Heap} (hH : H1 = H) (sz : Nat) : Mx D cI cL cZ cQ adX ad S (AK ad (lay S).length sz) H1 H1 [] := by
  subst hH
  obtain ⟨hP, hDD, hS, r⟩ := hM
  refine ⟨hP, ⟨hDD.1, fun q x hx => ?_⟩, va_S.rf, r⟩
  obtain ⟨h1, h2⟩ := ws_addr hx
  exact Or.inl ⟨q, h1, h2⟩
theorem AK_sub (C : Cx D cI cL cZ cQ adX X k p R s m args meth c A) (hM : Mx D cI cL cZ cQ adX ad S A s.heap H locs) : ∀ q, AK ad (lay S).length H.size q → A q := by
  intro q hq
  obtain ⟨hP, hDD, hS, r⟩ := hM
  rcases hq with ⟨a, h1, rfl⟩ | h
  · obtain ⟨x, hx⟩ : ∃ x, (lay S)[a]? = some x := ⟨_, List.getElem?_eq_getElem h1⟩
    exact hDD.2 a _ (ws_get hx)
  · exact C.2.2.2.2.2.2.1 q (Nat.le_trans hS.1 h)
set_option maxHeartbeats 4000000 in
theorem sim_call {j : Nat} {as rest : List AV} {o : Option AV ⊕ Nat} {mc ms : Nat} (hm : (match I with | .invokestatic _ | .invokevirtual _ | .invokespecial _ => true | _ => false) = true) (hMet : MetN X n) (C : Cx D cI cL cZ cQ adX X k p R s m args meth c A) (hl : l.stackTraces = false) (hd : decode (mC k) pc = .ok (I, il I)) (hk : lkb k I ax = true)
    (hc : ctl I len ax (pc, L, st) S = some (.inr (.inl (j, as, rest)))) (hrun : run X n j (0, entL as ++ List.replicate (mL j - (entL as).length) none, []) S = some (o, S2)) (hen : (entL as).length ≤ mL j) (h8 : (rest.map acat).sum ≤ 8)
    (hM : Mx D cI cL cZ cQ adX ad S A s.heap H locs) (hL : LR (lay S).length ad (mL k) L ls) (hs : SR (lay S).length ad st sv) (hmc : mc + S.2.2.1 = S2.2.2.1) (hms : ms + S.2.2.2 = S2.2.2.2) (hcell : cells + mc ≤ R.cells ∧ slots + ms ≤ R.slots) :
    il I = 3 ∧ ∃ (svr : List Value) (a' : Array Value), SR (lay S).length ad rest svr ∧ vx_Run p l e R s m args below meth c H locs cells slots mc ms (F0 m pc ls sv) svr (QcF D cI cL cZ cQ adX ad (lay S).length S2 (AK ad (lay S).length H.size) o a') (XcF D cI cL cZ cQ adX ad (lay S).length S2 (AK ad (lay S).length H.size) o) (AK ad (lay S).length H.size) := by
  obtain ⟨hx, hb, hml, hown, hts, hK, hA, hE, hlo, hr, htab, hnm, hfr, hro⟩ := id C
  have hS := hM.2.2.1
  have hP := hM.1
  have hadx := hM.2.2.2.2.2.2.2.1
  have hsize : (F0 m pc ls sv).locals.size = mL k := hL.1
  have fix : CallFix p m c (mC k) (mL k) s args PW (cn (mO k)) := ⟨hx, hb, hml, hown, hts⟩
  have pre : ∀ (vs : List Value), SR (lay S).length ad as vs → ∀ U : State, U.heap = H → s.WarmedH U.vm → PcF D cI cL cZ cQ adX X ad S as H.size vs.toArray U := fun vs hvs U hU hW =>
    ⟨⟨vs, rfl, hvs⟩, by rw [hU], Mx_AK hM hU H.size, va_K.moved hW.alike hK, by rw [hU]; exact Ext.call hE hS hW (AK_sub C hM)⟩
  have wsall : ∀ j', j' < kN → j' ≠ kLaw → ∀ w ∈ wsk j', ∀ (a' : Array Value) (U : State), s.WarmedH U.vm → w.before a' U = true := fun j' h1 h2 w hw a' U hW => by
    rcases List.mem_cons.mp hw with rfl | h
    · exact pw_at hW (codeW_pw j') (hts _ (mw_facts h1 h2).1)
    · exact pw_at hW (List.mem_filter.mp h).2 (hts _ h)
  have hrm : ∀ (vs : List Value), SR (lay S).length ad rest vs → 2 * (F0 m pc ls sv).monitorRoom + (vs.map fun v => v.category).sum ≤ 8 := fun vs hvs => lv_room (by rw [SR_sum _ _ hvs]; exact h8)
  have met := fun (hj : j < kN) (hjl : j ≠ kLaw) => hMet j as S o S2 hrun hen hj hjl (l := l) D cI cL cZ cQ adX ad H.size mc ms hl hmc hms
  cases I with
  | invokestatic i =>
    refine ⟨rfl, ?_⟩
    have hmx : ax.1 = 2 ∨ ax.1 = 3 ∨ ax.1 = 10 := by
      simp only [ctl] at hc
      split at hc
      · assumption
      · split at hc
        · split at hc
          · split at hc
            · split at hc <;> cases hc
            · cases hc
          · cases hc
        · split at hc
          · split at hc
            · split at hc
              · split at hc <;> cases hc
              · cases hc
            · cases hc
          · cases hc
    simp only [ctl] at hc
    rw [if_pos hmx] at hc
    split at hc
    · next htk =>
      cases hc
      have hs' := hs
      rw [← List.take_append_drop ax.2.2 st] at hs'
      obtain ⟨x, y, rfl, hx1, hy1⟩ := SR_app _ _ _ hs'
      have hAs := SR_rev _ _ hx1
      have hlenx : x.reverse.length = ax.2.2 := by rw [List.length_reverse, SR_len _ _ hx1]; exact htk
      refine ⟨y, x.reverse.toArray, hy1, ?_⟩
      simp only [lkb] at hk
      by_cases h2 : ax.1 = 2
      · rw [if_pos h2, Bool.and_eq_true, decide_eq_true_eq] at hk
        obtain ⟨k1, k2, k3, k4, k5, k6, k7, k8⟩ := hk
        obtain ⟨⟨o', i', j', pl⟩, g1, e1, e2, e3⟩ := any_dec k1
        dsimp only at e1 e2 e3
        subst e1; subst e2; subst e3
        have g2 := PW_hts hts (List.all_eq_true.mp ML_ok _ g1)
        obtain ⟨f1, f2, f3, f4, f5, f6, f7, f8, f9, f10⟩ := mw_facts k7 k8
        have hcw : codeW ax.2.1 = Cond.code (mY ax.2.1) (mC ax.2.1) (mL ax.2.1) (mR ax.2.1) := by unfold codeW; rw [if_pos k3]
        refine vx_runS (bytes := mC ax.2.1) (maxL := mL ax.2.1) (ret := mR ax.2.1) (n := ax.2.2) (As := x.reverse) fix (met k7 k8) ⟨⟨rfl, rfl, ?_, ?_, wsall _ k7 k8, ?_, ?_, hts _ f5, f9, ?_, g2⟩, hts _ (f2 k2)⟩ ⟨PcF_blind, pre _ hAs⟩ rfl hlenx hsize (by rw [List.reverse_reverse]) (hrm _ hy1) hd hcell
        · exact Nat.le_trans k5 hfr
        · exact Nat.le_trans k6 hro
        · rw [← hcw]; exact List.mem_cons_self
        · rw [← hcw]; exact hts _ f1
        · intro sig h; rw [k4]; exact f8 sig h
      · rw [if_neg h2] at hk
        by_cases h3 : ax.1 = 3
        · rw [if_pos h3, Bool.and_eq_true, decide_eq_true_eq] at hk
          obtain ⟨k1, k2, k3, k4, k5, k6, k7, k8⟩ := hk
          obtain ⟨⟨o', i', j', pl⟩, g1, e1, e2, e3⟩ := any_dec k1
          dsimp only at e1 e2 e3
          subst e1; subst e2; subst e3
          have g2 : va_Nw _ s := hE.1 _ g1
          obtain ⟨f1, f2, f3, f4, f5, f6, f7, f8, f9, f10⟩ := mw_facts k7 k8
          have hcw : codeW ax.2.1 = Cond.code (mY ax.2.1) (mC ax.2.1) (mL ax.2.1) (mR ax.2.1) := by unfold codeW; rw [if_pos k3]
          refine vx_runSN (bytes := mC ax.2.1) (maxL := mL ax.2.1) (ret := mR ax.2.1) (n := ax.2.2) (As := x.reverse) fix (met k7 k8) ⟨⟨⟨rfl, rfl, ?_, ?_, wsall _ k7 k8, ?_⟩, ?_, hts _ f5, f9, ?_, va_Nw.use rfl g2⟩, hts _ (f2 k2), trivial⟩ ⟨PcF_blind, pre _ hAs⟩ rfl hlenx hsize (by rw [List.reverse_reverse]) (hrm _ hy1) hd hcell
          · exact Nat.le_trans k5 hfr
          · exact Nat.le_trans k6 hro
          · rw [← hcw]; exact List.mem_cons_self
          · rw [← hcw]; exact hts _ f1
          · intro sig h; rw [k4]; exact f8 sig h
        · rw [if_neg h3] at hk
          have h10 : ax.1 = 10 := by omega
          rw [if_pos h10, Bool.and_eq_true, decide_eq_true_eq] at hk
          obtain ⟨k1, k2, k3, k4, k5, k6, k7, k8⟩ := hk
          obtain ⟨⟨o', i', j', pl⟩, g1, e1, e2, e3⟩ := any_dec k1
          dsimp only at e1 e2 e3
          subst e1; subst e2; subst e3
          have g2 := PW_hts hts (List.all_eq_true.mp ML_ok _ g1)
          obtain ⟨f1, f2, f3, f4, f5, f6, f7, f8, f9, f10⟩ := mw_facts k7 k8
          have hcw : codeW ax.2.1 = Cond.codeWith (mY ax.2.1) (mC ax.2.1) (mL ax.2.1) (mR ax.2.1) (mH ax.2.1) := by unfold codeW; rw [if_neg k3]
          refine vx_runSX (bytes := mC ax.2.1) (maxL := mL ax.2.1) (ret := mR ax.2.1) (hh := mH ax.2.1) (n := ax.2.2) (As := x.reverse) fix (met k7 k8) ⟨⟨rfl, rfl, ?_, ?_, wsall _ k7 k8, ?_⟩, ?_, hts _ f5, f9, ?_, g2, hts _ (f2 k2)⟩ ⟨PcF_blind, pre _ hAs⟩ rfl hlenx hsize (by rw [List.reverse_reverse]) (hrm _ hy1) hd hcell
          · exact Nat.le_trans k5 hfr
          · exact Nat.le_trans k6 hro
          · rw [← hcw]; exact List.mem_cons_self
          · rw [← hcw]; exact hts _ f1
          · intro sig h; rw [k4]; exact f8 sig h
    · cases hc
  | invokevirtual i =>
    refine ⟨rfl, ?_⟩
    simp only [ctl] at hc
    split at hc
    · next h1 =>
      split at hc
      · next htk =>
        split at hc
        · next b r hdr =>
          split at hc
          · next hrec =>
            cases hc
            have hs' := hs
            rw [← List.take_append_drop ax.2.2 st, hdr] at hs'
            obtain ⟨x, y, rfl, hx1, hy1⟩ := SR_app _ _ _ hs'
            obtain ⟨w, t, rfl, hb1, hy2⟩ := SR_cons hy1
            have hb0 := hb1
            obtain ⟨hb2, rfl⟩ := hb1
            have hAs := SR_rev _ _ hx1
            have hlenx : x.reverse.length = ax.2.2 := by rw [List.length_reverse, SR_len _ _ hx1]; exact htk
            refine ⟨t, (Value.ref (ad b) :: x.reverse).toArray, hy2, ?_⟩
            simp only [lkb] at hk
            rw [if_pos h1, Bool.and_eq_true, decide_eq_true_eq] at hk
            obtain ⟨k1, k2, k3, k4, k5, k6, k7, k8⟩ := hk
            obtain ⟨⟨o', i', j', pl⟩, g1, e1, e2, e3⟩ := any_dec k1
            dsimp only at e1 e2 e3
            subst e1; subst e2; subst e3
            have g2 := PW_hts hts (List.all_eq_true.mp ML_ok _ g1)
            obtain ⟨f1, f2, f3, f4, f5, f6, f7, f8, f9, f10⟩ := mw_facts k7 k8
            have hcw : codeW ax.2.1 = Cond.code (mY ax.2.1) (mC ax.2.1) (mL ax.2.1) (mR ax.2.1) := by unfold codeW; rw [if_pos k3]
            have hcellB : ∃ cellB : Cell, H[ad b]? = some cellB ∧ cellB.vm.isStatics = false ∧ s.vm.findClass (cn (mO ax.2.1)) = some cellB.cls := by
              rcases hrec with hrec | ⟨r1, r2, r3, r4⟩
              · have hci : mO ax.2.1 < 10 := by
                  rcases Nat.lt_or_ge (mO ax.2.1) 10 with h | h
                  · exact h
                  · exfalso
                    obtain ⟨r', g1, -⟩ := hP b _ (ws_get hrec)
                    have hlt := (List.getElem?_eq_some_iff.mp (show vwCl[mO ax.2.1]? = some r' from g1)).1
                    exact absurd hlt (Nat.not_lt.mpr h)
                exact va_recv (q0 := b) (ci := mO ax.2.1) hK hP (cl_get _ hci) (ws_get hrec)
              · have ha : 1000000 ≤ b := by unfold xStr at r3; omega
                rw [hadx b ha, r1]
                have h9 := vk_recv (i := b - xStr) hE.2.2.1 (by omega) hS
                rw [show xStr + (b - xStr) = b by omega] at h9
                exact h9
            refine vx_runV (bytes := mC ax.2.1) (maxL := mL ax.2.1) (ret := mR ax.2.1) (n := ax.2.2) (As := x.reverse) (C := cn (mO ax.2.1)) (b := ad b) fix (met k7 k8) ⟨⟨rfl, rfl, ?_, ?_, wsall _ k7 k8, ?_, ?_, hts _ f5, f9, ?_, g2⟩, hts _ (f3 (by omega)), hts _ (f4 k2)⟩ ⟨PcF_blind, hcellB, pre (Value.ref (ad b) :: x.reverse) ⟨hb0, hAs⟩⟩ rfl hlenx hsize (by rw [List.reverse_reverse]) (hrm _ hy2) hd hcell
            · exact Nat.le_trans k5 hfr
            · exact Nat.le_trans k6 hro
            · rw [← hcw]; exact List.mem_cons_self
            · rw [← hcw]; exact hts _ f1
            · intro sig h; rw [k4]; exact f8 sig h
          · cases hc
        · cases hc
      · cases hc
    · cases hc
  | invokespecial i =>
    refine ⟨rfl, ?_⟩
    simp only [ctl] at hc
    split at hc
    · next h1 =>
      split at hc
      · next htk =>
        split at hc
        · next b r hdr =>
          split at hc
          · next hrec =>
            cases hc
            have hs' := hs
            rw [← List.take_append_drop ax.2.2 st, hdr] at hs'
            obtain ⟨x, y, rfl, hx1, hy1⟩ := SR_app _ _ _ hs'
            obtain ⟨w, t, rfl, hb1, hy2⟩ := SR_cons hy1
            have hb0 := hb1
            obtain ⟨hb2, rfl⟩ := hb1
            have hAs := SR_rev _ _ hx1
            have hlenx : x.reverse.length = ax.2.2 := by rw [List.length_reverse, SR_len _ _ hx1]; exact htk
            refine ⟨t, (Value.ref (ad b) :: x.reverse).toArray, hy2, ?_⟩
            simp only [lkb] at hk
            rw [if_pos h1, Bool.and_eq_true, decide_eq_true_eq] at hk
            obtain ⟨k1, k2, k3, k9, k4, k5, k6, k7, k8⟩ := hk
            obtain ⟨⟨o', i', j', pl⟩, g1, e1, e2, e3⟩ := any_dec k1
            dsimp only at e1 e2 e3
            subst e1; subst e2; subst e3
            have g2 := PW_hts hts (List.all_eq_true.mp ML_ok _ g1)
            obtain ⟨f1, f2, f3, f4, f5, f6, f7, f8, f9, f10⟩ := mw_facts k7 k8
            have hcw : codeW ax.2.1 = Cond.code (mY ax.2.1) (mC ax.2.1) (mL ax.2.1) none := by unfold codeW; rw [if_pos k3, k9]
            refine vx_runI (bytes := mC ax.2.1) (maxL := mL ax.2.1) (n := ax.2.2) (As := x.reverse) (b := ad b) fix (met k7 k8) ⟨⟨rfl, rfl, ?_, ?_, wsall _ k7 k8, ?_, ?_, hts _ f5, f9, ?_, g2⟩, f7 k2, hts _ (f3 (by omega))⟩ ⟨PcF_blind, pre (Value.ref (ad b) :: x.reverse) ⟨hb0, hAs⟩⟩ rfl hlenx hsize (by rw [List.reverse_reverse]) (hrm _ hy2) hd hcell
            · exact Nat.le_trans k5 hfr
            · exact Nat.le_trans k6 hro
            · rw [← hcw]; exact List.mem_cons_self
            · rw [← hcw]; exact hts _ f1
            · intro sig h; rw [k4]; exact f8 sig h
          · cases hc
        · cases hc
      · cases hc
    · split at hc
      · split at hc
        · split at hc <;> cases hc
        · cases hc
      · cases hc
  | _ => exact absurd hm (by simp)
end SIMZ
