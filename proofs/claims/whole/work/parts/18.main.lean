/-! THE SIMULATION: a run of the abstract machine is a run of the machine. -/
def gA (I : Instr) : Bool := match I with | .iconst _ | .bipush _ | .sipush _ | .lconst _ | .aconst_null | .iload _ | .iload_n _ | .lload _ | .lload_n _ | .aload _ | .aload_n _ | .istore _ | .istore_n _ | .lstore _ | .lstore_n _ | .astore _ | .astore_n _ | .iinc _ _ | .iadd | .isub | .imul | .ineg | .idiv | .irem | .iand | .ior | .ixor | .ishl | .ishr | .iushr | .i2l | .i2c | .l2i | .ladd | .lsub | .lmul | .land | .lor | .lshl | .lcmp | .dup | .dup2 | .dup_x1 | .pop => true | _ => false
def gB (I : Instr) : Bool := match I with | .ldc _ | .ldc_w _ | .ldc2_w _ | .getfield _ | .putfield _ | .getstatic _ | .iaload | .baload | .laload | .aaload | .iastore | .bastore | .lastore | .aastore | .arraylength => true | _ => false
def gC (I : Instr) : Bool := match I with | .new _ | .newarray _ | .anewarray _ => true | _ => false
def gD (I : Instr) : Bool := match I with | .goto _ | .ifCond _ _ | .if_icmp _ _ | .ifnull _ | .ifnonnull _ | .if_acmp _ _ | .tableswitch _ _ _ _ | .lookupswitch _ _ => true | _ => false
def gR (I : Instr) : Bool := match I with | .ireturn | .lreturn | .areturn | .return_ => true | _ => false
def gI (I : Instr) : Bool := match I with | .invokestatic _ | .invokevirtual _ | .invokespecial _ => true | _ => false
def gF (I : Instr) (x : Nat) : Bool := match I with | .invokestatic _ => decide (x = 5 ∨ x = 6) | .invokespecial _ => decide (x = 7) | _ => false
theorem lookup_mem {α : Type} : ∀ (l : List (Nat × α)) (a : Nat) (b : α), l.lookup a = some b → (a, b) ∈ l
  | [], a, b, h => by cases h
  | (x, y) :: r, a, b, h => by
    rw [List.lookup_cons] at h
    split at h
    · next hx => cases h; rw [beq_iff_eq.mp hx]; exact List.mem_cons_self
    · exact List.mem_cons_of_mem _ (lookup_mem r a b h)
theorem cd_facts {k pc : Nat} {I : Instr} {len : Nat} {ax : Nat × Nat × Nat} (hk : k < kN) (h : cdAt k pc = some (I, len, ax)) : decode (mC k) pc = .ok (I, len) ∧ (gS I = false → len = il I) ∧ lkb k I ax = true ∧ (∀ i, I = .new i → ax.1 = 2 → (k, pc, i, ax.2.1) ∈ TL) := by
  have h0 := chk_all k hk
  unfold chkM at h0
  rw [Bool.and_eq_true] at h0
  have hm := lookup_mem _ _ _ h
  have h1 := List.all_eq_true.mp h0.2 _ hm
  have h2 := wlk_ok k _ _ _ h0.1 (List.drop_zero ..).symm _ hm
  unfold chkE at h1
  simp only [Bool.and_eq_true] at h1
  obtain ⟨⟨h3, h4⟩, h5⟩ := h1
  refine ⟨h2, fun hg => ?_, h4, fun i hi h6 => ?_⟩
  · rw [hg, Bool.false_or] at h3; exact Nat.eq_of_beq_eq_true h3
  · subst hi
    simp only at h5
    rw [if_pos h6] at h5
    obtain ⟨x, h7, h8⟩ := any_dec h5
    rw [← h8]; exact h7
theorem stp_group {X : AX} {I : Instr} {ax : Nat × Nat × Nat} {L : ALs} {st : List AV} {S : AS} {r} (h : stp X I ax L st S = some r) :
    gA I = true ∨
    gB I = true ∨
    gC I = true := by
  cases I <;> first | exact Or.inl rfl | exact Or.inr (Or.inl rfl) | exact Or.inr (Or.inr rfl) | (simp [stp] at h)
theorem ctl_group {I : Instr} {len : Nat} {ax : Nat × Nat × Nat} {fr : AF} {S : AS} {r} (h : ctl I len ax fr S = some r) :
    (gD I = true ∧ ∃ y, r = .inl y) ∨
    (gR I = true ∧ ∃ y, r = .inr (.inr y)) ∨
    ((∃ i, I = .new i) ∧ ax.1 = 2 ∧ (fr.2.2.map acat).sum ≤ 8 ∧ r = .inr (.inr (.inr ax.2.1, thrS S))) ∨
    (gF I ax.1 = true ∧ (∃ y, r = .inl y) ∧ len = len) ∨
    (gI I = true ∧ ∃ y, r = .inr (.inl y)) := by
  cases I <;> first
    | (exfalso; simp [ctl] at h; done)
    | (simp only [ctl, jmp] at h
       refine Or.inl ⟨rfl, ?_⟩
       repeat' (split at h)
       all_goals first | (cases h; exact ⟨_, rfl⟩) | (cases h; done))
    | (simp only [ctl] at h
       refine Or.inr (Or.inl ⟨rfl, ?_⟩)
       repeat' (split at h)
       all_goals first | (cases h; exact ⟨_, rfl⟩) | (cases h; done))
    | skip
  · simp only [ctl] at h
    split at h
    · next q =>
      refine Or.inr (Or.inr (Or.inr (Or.inr ⟨rfl, ?_⟩)))
      repeat' (split at h)
      all_goals first | (cases h; exact ⟨_, rfl⟩) | (cases h; done)
    · split at h
      · next q =>
        refine Or.inr (Or.inr (Or.inr (Or.inl ⟨decide_eq_true q, ?_, rfl⟩)))
        repeat' (split at h)
        all_goals first | (cases h; exact ⟨_, rfl⟩) | (cases h; done)
      · cases h
  · simp only [ctl] at h
    split at h
    · next q =>
      refine Or.inr (Or.inr (Or.inr (Or.inr ⟨rfl, ?_⟩)))
      repeat' (split at h)
      all_goals first | (cases h; exact ⟨_, rfl⟩) | (cases h; done)
    · split at h
      · next q =>
        refine Or.inr (Or.inr (Or.inr (Or.inl ⟨decide_eq_true (Or.inl q), ?_, rfl⟩)))
        repeat' (split at h)
        all_goals first | (cases h; exact ⟨_, rfl⟩) | (cases h; done)
      · split at h
        · next q =>
          refine Or.inr (Or.inr (Or.inr (Or.inl ⟨decide_eq_true (Or.inr q), ?_, rfl⟩)))
          repeat' (split at h)
          all_goals first | (cases h; exact ⟨_, rfl⟩) | (cases h; done)
        · cases h
  · simp only [ctl] at h
    split at h
    · next q =>
      refine Or.inr (Or.inr (Or.inr (Or.inr ⟨rfl, ?_⟩)))
      repeat' (split at h)
      all_goals first | (cases h; exact ⟨_, rfl⟩) | (cases h; done)
    · cases h
  · simp only [ctl] at h
    split at h
    · next q =>
      cases h
      exact Or.inr (Or.inr (Or.inl ⟨⟨_, rfl⟩, q.1, q.2, rfl⟩))
    · cases h
theorem ctl_mono {I : Instr} {len : Nat} {ax : Nat × Nat × Nat} {fr fr' : AF} {S S' : AS} (h : ctl I len ax fr S = some (.inl (fr', S'))) : S'.2 = S.2 := by
  have j : ∀ {off r}, jmp fr off r S = some (.inl (fr', S')) → S'.2 = S.2 := fun h => by rw [(jmp_spec h).2.2]
  unfold ctl at h
  split at h
  all_goals (repeat' (split at h))
  all_goals first | (cases h; done) | (cases h; rfl) | exact j h
theorem ctl_ret {I : Instr} {len : Nat} {ax : Nat × Nat × Nat} {fr : AF} {S S' : AS} {o} (hg : gR I = true) (h : ctl I len ax fr S = some (.inr (.inr (o, S')))) : S' = S := by
  cases I <;> first
    | exact absurd hg Bool.false_ne_true
    | (simp only [ctl] at h
       repeat' (split at h)
       all_goals first | (cases h; rfl) | (cases h; done))
theorem run_mono {X : AX} : ∀ (n k : Nat) (fr : AF) (S : AS) (o : Option AV ⊕ Nat) (S1 : AS), run X n k fr S = some (o, S1) → S.2.2.1 ≤ S1.2.2.1 ∧ S.2.2.2 ≤ S1.2.2.2 ∧ (lay S).length ≤ (lay S1).length := by
  intro n
  induction n with
  | zero => intro k fr S o S1 h; simp [run] at h
  | succ n ih =>
    intro k fr S o S1 h
    unfold run at h
    split at h
    · cases h
    · next I len ax hcd =>
      split at h
      · next ls' st' S' hst =>
        have h1 := stp_mono hst
        have h2 := ih _ _ _ _ _ h
        omega
      · next hst =>
        split at h
        · cases h
        · next fr' S' hc =>
          have h1 := ctl_mono hc
          have h2 := ih _ _ _ _ _ h
          have h3 : lay S' = lay S := by unfold lay; rw [h1]
          rw [h1, h3] at h2
          exact h2
        · next o' S' hc =>
          cases h
          rcases ctl_group hc with ⟨-, y, e⟩ | ⟨hg, y, e⟩ | ⟨-, -, -, e⟩ | ⟨-, ⟨y, e⟩, -⟩ | ⟨-, y, e⟩
          · cases e
          · rw [ctl_ret hg hc]; exact ⟨Nat.le_refl _, Nat.le_refl _, Nat.le_refl _⟩
          · cases e; exact ⟨Nat.le_succ _, Nat.le_add_right _ _, Nat.le_refl _⟩
          · cases e
          · cases e
        · next j as rest hc =>
          split at h
          · split at h
            · cases h
            · next v S' hr =>
              have h1 := ih _ _ _ _ _ hr
              have h2 := ih _ _ _ _ _ h
              omega
            · next x S' hr =>
              have h1 := ih _ _ _ _ _ hr
              split at h
              · have h2 := ih _ _ _ _ _ h
                omega
              · cases h; exact h1
          · cases h

theorem had_inj {D : va_G} {cI cL cZ cQ : ClassId} {adX ad : Nat → Nat} {S : AS} {A : Nat → Prop} {H0 H : Heap} {locs : List Loc} (hM : Mx D cI cL cZ cQ adX ad S A H0 H locs) : ∀ a b, a < (lay S).length → b < (lay S).length → ad a = ad b → a = b := by
  intro a b ha hb hab
  obtain ⟨x, hx⟩ : ∃ x, (lay S)[a]? = some x := ⟨_, List.getElem?_eq_getElem ha⟩
  obtain ⟨y, hy⟩ : ∃ y, (lay S)[b]? = some y := ⟨_, List.getElem?_eq_getElem hb⟩
  exact hM.2.1.1 a b _ _ (ws_get hx) (ws_get hy) hab
theorem W_mono {p : Program} {l : Launch} {e : Env} {R : Room} {s : State} {m : MethodId} {args : Array Value} {below : List Frame} {meth : Method} {c : Code} {H : Heap} {locs : List Loc} {cells slots : Nat} {Q Q' : State → Prop} {g : JFrame} (h : ∀ t, Q t → Q' t) (k : W p l e R s m args below meth c H locs cells slots Q g) : W p l e R s m args below meth c H locs cells slots Q' g := by
  intro T hT X
  obtain ⟨t, a, b⟩ := k T hT X
  exact ⟨t, a, h t b⟩
theorem hz_none {α β γ : Type} (f : α × β → Option γ) : ∀ (hs : List α) (xs : List β), hs.length = xs.length → (hs.zip xs).findSome? f = none → ∀ z ∈ hs, ∃ q, (z, q) ∈ hs.zip xs ∧ f (z, q) = none
  | [], _, _, _, z, hz => absurd hz List.not_mem_nil
  | a :: r, [], hl, _, _, _ => by cases hl
  | a :: r, b :: t, hl, h, z, hz => by
    rw [List.zip_cons_cons, List.findSome?_cons] at h
    split at h
    · cases h
    · next h0 =>
      rcases List.mem_cons.mp hz with rfl | hz
      · exact ⟨b, List.mem_cons_self, h0⟩
      · obtain ⟨q, h1, h2⟩ := hz_none f r t (Nat.succ.inj hl) h z hz
        exact ⟨q, List.mem_cons_of_mem _ h1, h2⟩
theorem hz_some {α β γ : Type} (f : α × β → Option γ) (g : γ) : ∀ (hs : List α) (xs : List β), hs.length = xs.length → (hs.zip xs).findSome? f = some g → ∃ pre z suf q, hs = pre ++ z :: suf ∧ (z, q) ∈ hs.zip xs ∧ f (z, q) = some g ∧ ∀ y ∈ pre, ∃ q, (y, q) ∈ hs.zip xs ∧ f (y, q) = none
  | [], _, _, h => by cases h
  | a :: r, [], hl, _ => by cases hl
  | a :: r, b :: t, hl, h => by
    rw [List.zip_cons_cons, List.findSome?_cons] at h
    split at h
    · next w hw =>
      cases h
      exact ⟨[], a, r, b, rfl, List.mem_cons_self, hw, fun y hy => absurd hy List.not_mem_nil⟩
    · next h0 =>
      obtain ⟨pre, z, suf, q, h1, h2, h3, h4⟩ := hz_some f g r t (Nat.succ.inj hl) h
      refine ⟨a :: pre, z, suf, q, by rw [h1]; rfl, List.mem_cons_of_mem _ h2, h3, fun y hy => ?_⟩
      rcases List.mem_cons.mp hy with rfl | hy
      · exact ⟨b, List.mem_cons_self, h0⟩
      · obtain ⟨q', g1, g2⟩ := h4 y hy
        exact ⟨q', List.mem_cons_of_mem _ g1, g2⟩
noncomputable def hF (pc x : Nat) (q : (Nat × Nat × Nat × Nat) × Nat) : Option Nat := if q.1.1 ≤ pc ∧ pc < q.1.2.1 ∧ q.2 = x then some q.1.2.2.1 else none
theorem hnd_eq (k pc x : Nat) : hnd k pc x = ((mH k).zip (HX.getD k [])).findSome? (hF pc x) := by
  unfold hnd
  split
  · next h => rw [h]; rfl
  · rfl
theorem ht_facts {k : Nat} (hk : k < kN) : (mH k).length = (HX.getD k []).length ∧ ∀ z q, (z, q) ∈ (mH k).zip (HX.getD k []) → z.2.2.2 ≠ 0 ∧ q < 4 ∧ Cond.classLink (cn (mO k)) z.2.2.2 (XN.getD q "") ∈ PW := by
  have h := List.all_eq_true.mp HT_ok k (List.mem_range.mpr hk)
  simp only [Bool.and_eq_true, decide_eq_true_eq, List.all_eq_true] at h
  refine ⟨h.1, fun z q hz => ?_⟩
  obtain ⟨⟨h1, h2⟩, h3, h4⟩ := h.2 (z, q) hz
  exact ⟨h1, h2, List.mem_filter.mpr ⟨h3, h4⟩⟩
theorem nc_mem {x q : Nat} {E : String} (hE : XN[x]? = some E) (hq : q < 4) (hne : q ≠ x) : (E, XN.getD q "") ∈ NC := by
  have hx : x < 4 := (List.getElem?_eq_some_iff.mp hE).1
  have h : ((List.range 4).all fun x => (List.range 4).all fun q => decide (q = x) || decide ((XN.getD x "", XN.getD q "") ∈ NC)) = true := by decide +kernel
  have h2 := List.all_eq_true.mp (List.all_eq_true.mp h x (List.mem_range.mpr hx)) q (List.mem_range.mpr hq)
  rw [decide_eq_false hne, Bool.false_or, decide_eq_true_eq] at h2
  have e : XN.getD x "" = E := by rw [List.getD_eq_getElem?_getD, hE]; rfl
  rw [← e]; exact h2
theorem ca_self {x : Nat} {E : String} (hE : XN[x]? = some E) : Cond.castable E E ∈ PW := by
  have h := CA_ok
  simp only [Bool.and_eq_true] at h
  obtain ⟨⟨⟨h1, h2⟩, h3⟩, h4⟩ := h
  have hx : x < 4 := (List.getElem?_eq_some_iff.mp hE).1
  match x, hx, hE with
  | 0, _, hE => cases hE; exact inT_mem h1
  | 1, _, hE => cases hE; exact inT_mem h2
  | 2, _, hE => cases hE; exact inT_mem h3
  | 3, _, hE => cases hE; exact inT_mem h4
set_option maxHeartbeats 8000000 in
theorem bod_all (X : AX) : ∀ n, Bod X n := by
  intro n
  induction n with
  | zero => intro k fr S o S1 h; simp [run] at h
  | succ n ih =>
    have hMet : MetN X n := met_of_bod ih
    intro k fr S o S1 hrun hk p l e R s m args below meth c D cI cL cZ cQ adX A hl C ad0 ad n0 H locs cells slots ls sv mc ms c0 s0 hag hn0 hM hL hs hc0 hs0 hmc hms hR1 hR2
    obtain ⟨pc, L, st⟩ := fr
    have hmono := run_mono _ _ _ _ _ _ hrun
    unfold run at hrun
    split at hrun
    · cases hrun
    · next I len ax hcd =>
      obtain ⟨hd, hlen, hlk, htl⟩ := cd_facts hk hcd
      dsimp only at hL hs hd hrun ⊢
      split at hrun
      · next L' st' S' hst =>
        have hm1 := stp_mono hst
        have hm2 := run_mono _ _ _ _ _ _ hrun
        rcases stp_group hst with hg | hg | hg
        · obtain rfl : len = il I := by cases I <;> first | exact absurd hg Bool.false_ne_true | exact hlen rfl
          refine sim_a C.1 C.2.1 hd (by cases I <;> first | exact absurd hg Bool.false_ne_true | rfl) hst hL hs (fun hS' ls' sv' a b => ?_)
          subst hS'
          exact ih k _ S' o S1 hrun hk hl C hag hn0 hM a b hc0 hs0 hmc hms hR1 hR2
        · obtain rfl : len = il I := by cases I <;> first | exact absurd hg Bool.false_ne_true | exact hlen rfl
          refine sim_b C hd hlk (by cases I <;> first | exact absurd hg Bool.false_ne_true | rfl) hst hM hs (fun H' locs' sv' e1 e2 e3 a b => ?_)
          subst e1
          have e2' : (lay S').length = (lay S).length := by rw [e2]
          refine ih k _ S' o S1 hrun hk hl C hag (by rw [e2]; exact hn0) a (by rw [e2]; exact hL) (by rw [e2]; exact b) ?_ ?_ hmc hms hR1 hR2
          · rw [e3]; exact hc0
          · rw [e3]; exact hs0
        · obtain rfl : len = il I := by cases I <;> first | exact absurd hg Bool.false_ne_true | exact hlen rfl
          have hcell : S'.2.2.1 = S.2.2.1 + 1 := by
            cases I <;> first | exact absurd hg Bool.false_ne_true | skip
            all_goals (simp only [stp] at hst; repeat' (split at hst))
            all_goals first | (cases hst; done) | (cases hst; rfl)
          refine sim_c C hd hlk (by cases I <;> first | exact absurd hg Bool.false_ne_true | rfl) hst hM hs (by omega) (fun q hq => by omega) (fun x q H' sv' e1 e2 e3 e4 e5 a b => ?_)
          subst e1
          refine ih k _ S' o S1 hrun hk hl C (ad0 := ad0) (n0 := n0) (fun z hz => ?_) (by omega) a (LR_mono (by omega) e5 hL) b ?_ ?_ hmc hms hR1 hR2
          · rw [e5 z (hz.imp (fun q => Nat.lt_of_lt_of_le q hn0) id)]
            exact hag z hz
          · omega
          · omega
      · next hst =>
        split at hrun
        · cases hrun
        · next fr' S' hc =>
          rcases ctl_group hc with ⟨hg, -⟩ | ⟨-, y, e⟩ | ⟨-, -, -, e⟩ | ⟨hg, -, -⟩ | ⟨-, y, e⟩
          · refine sim_d C.1 C.2.1 hd (by cases I <;> first | trivial | exact hlen rfl) (by cases I <;> first | exact absurd hg Bool.false_ne_true | rfl) hc hs (had_inj hM) (fun sv' e1 e2 b => ?_)
            subst e1
            refine ih k _ S' o S1 hrun hk hl C hag hn0 hM ?_ b hc0 hs0 hmc hms hR1 hR2
            rw [e2]; exact hL
          · cases e
          · cases e
          · obtain rfl : len = il I := by cases I <;> first | exact absurd hg Bool.false_ne_true | exact hlen rfl
            refine sim_f C hd hlk (by cases I <;> first | exact absurd hg Bool.false_ne_true | exact hg) hc hM hL hs (fun H' locs' sv' e0 e1 e2 e3 a b => ?_)
            rw [← e0]
            refine ih k _ S' o S1 hrun hk hl C hag (by rw [e2]; exact hn0) a ?_ (by rw [e2]; exact b) ?_ ?_ hmc hms hR1 hR2
            · rw [e1, e2]; exact hL
            · rw [e3]; exact hc0
            · rw [e3]; exact hs0
          · cases e
        · next o' S' hc =>
          cases hrun
          rcases ctl_group hc with ⟨-, y, e9⟩ | ⟨hg, y, e9⟩ | ⟨⟨i, rfl⟩, h2, h8, e9⟩ | ⟨-, ⟨y, e9⟩, -⟩ | ⟨-, y, e9⟩
          · cases e9
          · obtain rfl : len = il I := by cases I <;> first | exact absurd hg Bool.false_ne_true | exact hlen rfl
            obtain ⟨rfl, w⟩ := sim_r C hd hlk (by cases I <;> first | exact absurd hg Bool.false_ne_true | rfl) hc hag hn0 hM hs (cells := cells) (slots := slots) (below := below) (l := l) (e := e) (ls := ls)
            have e1 : cells = mc := by omega
            have e2 : slots = ms := by omega
            rw [← e1, ← e2]
            exact w
          · cases e9
            have hlk1 : (thrS S).2.2.1 = S.2.2.1 + 1 := rfl
            have hlk2 : (thrS S).2.2.2 = S.2.2.2 + 6 := rfl
            have ht := htl i rfl h2
            exact sim_t C hl ht hag hn0 hM hL hs h8 (by omega) (by omega) hR1 hR2
          · cases e9
          · cases e9
        · next j as rest hc =>
          split at hrun
          · next hen =>
            have hgc : gI I = true := by
              rcases ctl_group hc with ⟨-, y, e⟩ | ⟨hg, y, e⟩ | ⟨-, h2, h8, e⟩ | ⟨-, ⟨y, e⟩, -⟩ | ⟨hg, y, e⟩
              · cases e
              · cases e
              · cases e
              · cases e
              · exact hg
            obtain rfl : len = il I := by cases I <;> first | exact absurd hgc Bool.false_ne_true | exact hlen rfl
            have call : ∀ (o2 : Option AV ⊕ Nat) (S2 : AS), run X n j (0, entL as ++ List.replicate (mL j - (entL as).length) none, []) S = some (o2, S2) → (lay S2).length ≤ (lay S1).length → S2.2.2.1 ≤ S1.2.2.1 → S2.2.2.2 ≤ S1.2.2.2 →
                (∀ (svr : List Value) (ad' : Nat → Nat) (H' : Heap) (locs' : List Loc), SR (lay S).length ad rest svr → (∀ a, a < (lay S).length ∨ 1000000 ≤ a → ad' a = ad a) → (lay S).length ≤ (lay S2).length → Mx D cI cL cZ cQ adX ad' S2 A s.heap H' locs' →
                  (∀ v w, o2 = .inl v → tvo (lay S2).length ad' v w → W p l e R s m args below meth c H' locs' (cells + (S2.2.2.1 - S.2.2.1)) (slots + (S2.2.2.2 - S.2.2.2)) (vx_MQ below (QcF D cI cL cZ cQ adX ad0 n0 S1 A o) (XcF D cI cL cZ cQ adX ad0 n0 S1 A o) args s mc ms A) (F0 m (pc + 3) ls (w.toList ++ svr))) ∧
                  (∀ (x : Nat) (E : String) (q : Nat) (ce : Cell), o2 = .inr x → XN[x]? = some E → H'[q]? = some ce → ce.vm = .none → s.vm.findClass E = some ce.cls → vx_W p l e R s m args below meth c H' locs' (cells + (S2.2.2.1 - S.2.2.1)) (slots + (S2.2.2.2 - S.2.2.2)) (vx_MQ below (QcF D cI cL cZ cQ adX ad0 n0 S1 A o) (XcF D cI cL cZ cQ adX ad0 n0 S1 A o) args s mc ms A) (F0 m pc ls svr) q)) →
                W p l e R s m args below meth c H locs cells slots (vx_MQ below (QcF D cI cL cZ cQ adX ad0 n0 S1 A o) (XcF D cI cL cZ cQ adX ad0 n0 S1 A o) args s mc ms A) (F0 m pc ls sv) := by
              intro o2 S2 hr2 hm1 hm2 hm3 kk
              have hmr := run_mono _ _ _ _ _ _ hr2
              obtain ⟨h3, svr, a', hsr, hrun2⟩ := sim_call (cells := cells) (slots := slots) (below := below) (e := e) (l := l) (locs := locs) (by cases I <;> first | exact absurd hgc Bool.false_ne_true | rfl) hMet C hl hd hlk hc hr2 hen.1 hen.2 hM hL hs (mc := S2.2.2.1 - S.2.2.1) (ms := S2.2.2.2 - S.2.2.2) (by omega) (by omega) ⟨by omega, by omega⟩
              have hsub := AK_sub C hM
              intro T hT X0
              have keep : ∀ (st₀ t T' : State) (LL : List Loc) (ad' : Nat → Nat), st₀.heap = H → T'.heap = t.heap → (∀ q ∈ LL, AK ad (lay S).length H.size q.base) → FinR D cI cL cZ cQ adX ad (lay S).length S2 (AK ad (lay S).length H.size) ad' t → va_F (AK ad (lay S).length H.size) st₀ t → Mx D cI cL cZ cQ adX ad' S2 A s.heap T'.heap (locs ++ LL) := by
                intro st₀ t T' LL ad' h0 e1 hLL hF hva
                obtain ⟨k1, k2, k3⟩ := vx_keep h0 e1 hM.2.2.1 (fun q _ h => hsub q h) hsub hLL hva
                obtain ⟨g1, g2, g3⟩ := hF
                obtain ⟨gP, gD, -, gr9⟩ := g3
                rw [e1]
                rw [e1] at k3
                exact ⟨gP, ⟨gD.1, fun q x hx => hsub _ (gD.2 q x hx)⟩, k3, gr9⟩
              rcases hrun2 T hT X0 with ⟨v, st₀, t, T', LL, h0, X', hLL, e1, e2, hq, st9⟩ | ⟨q, st₀, t, T', LL, E, ce, h0, X', hLL, e1, e2, hq, hce, hcv, hcl, st9⟩
              · obtain ⟨v2, w2, ad', ho, hw, htv, hF, hva⟩ := hq
                cases hw
                have hMn := keep st₀ t T' LL ad' h0 e1 hLL hF hva
                obtain ⟨kv, -⟩ := kk svr ad' T'.heap (locs ++ LL) hsr hF.1 hF.2.1 hMn
                obtain ⟨t2, a1, b1⟩ := kv v2 v ho htv T' rfl X'
                exact ⟨t2, st9 t2 a1, b1⟩
              · obtain ⟨x, ad', ho, hx, hF, hva⟩ := hq
                have hMn := keep st₀ t T' LL ad' h0 e1 hLL hF hva
                obtain ⟨-, kx⟩ := kk svr ad' T'.heap (locs ++ LL) hsr hF.1 hF.2.1 hMn
                obtain ⟨t2, a1, b1⟩ := kx x E q ce ho hx (by rw [e1]; exact hce) hcv hcl T' rfl X'
                exact ⟨t2, st9.trans a1, b1⟩
            split at hrun
            · cases hrun
            · next v S2 hr2 =>
              have hm2 := run_mono _ _ _ _ _ _ hrun
              have hmr := run_mono _ _ _ _ _ _ hr2
              refine call _ S2 hr2 hm2.2.2 hm2.1 hm2.2.1 (fun svr ad' H' locs' hsr hag' hle hMn => ⟨fun v' w ho htv => ?_, fun x E q ce ho => by cases ho⟩)
              cases ho
              have h3 : il I = 3 := by cases I <;> first | exact absurd hgc Bool.false_ne_true | rfl
              rw [h3] at hrun
              refine ih k _ S2 o S1 hrun hk hl C (ad0 := ad0) (n0 := n0) (fun z hz => ?_) (Nat.le_trans hn0 hle) hMn (LR_mono hle hag' hL) ?_ (c0 := c0) (s0 := s0) (by omega) (by omega) hmc hms hR1 hR2
              · rw [hag' z (hz.imp (fun q => Nat.lt_of_lt_of_le q hn0) id)]
                exact hag z hz
              · have hsr' := SR_mono hle hag' _ _ hsr
                match v, w, htv with
                | none, none, _ => exact hsr'
                | some v, some w, htv => exact ⟨htv, hsr'⟩
            · next x S2 hr2 =>
              obtain ⟨hlx, hft⟩ := ht_facts hk
              have htab := C.2.2.2.2.2.2.2.2.2.2.1
              have own := C.2.2.2.1
              have hts := C.2.2.2.2.1
              have hNC : ∀ q ∈ NC, va_Nc q.1 q.2 s := C.2.2.2.2.2.2.2.1.2.2.2.2.2.2.2.2.2.2.2.2.1
              have hmr := run_mono _ _ _ _ _ _ hr2
              have pass : ∀ (E : String), XN[x]? = some E → ∀ (z : Nat × Nat × Nat × Nat) (q : Nat), (z, q) ∈ (mH k).zip (HX.getD k []) → hF pc x (z, q) = none → covers ⟨z.1, z.2.1, z.2.2.1, z.2.2.2⟩ pc = false ∨ (z.2.2.2 ≠ 0 ∧ ∃ nm : String, (Cond.classLink (cn (mO k)) z.2.2.2 nm).before args s = true ∧ va_Nc E nm s) := by
                intro E hE z q hz hf
                obtain ⟨f1, f2, f3⟩ := hft z q hz
                by_cases hcv : z.1 ≤ pc ∧ pc < z.2.1
                · refine Or.inr ⟨f1, _, hts _ f3, hNC (E, XN.getD q "") (nc_mem hE f2 (fun hqx => ?_))⟩
                  unfold hF at hf
                  rw [if_pos ⟨hcv.1, hcv.2, hqx⟩] at hf
                  cases hf
                · refine Or.inl ?_
                  show (decide (z.1 ≤ pc) && decide (pc < z.2.1)) = false
                  rw [← Bool.decide_and, decide_eq_false_iff_not]; exact hcv
              split at hrun
              · next h hh =>
                have hm2 := run_mono _ _ _ _ _ _ hrun
                rw [hnd_eq] at hh
                obtain ⟨pre, z, suf, q, z1, z2, z3, z4⟩ := hz_some _ _ _ _ hlx hh
                have hzc : z.1 ≤ pc ∧ pc < z.2.1 ∧ q = x ∧ z.2.2.1 = h := by
                  unfold hF at z3
                  split at z3
                  · next hcv => cases z3; exact ⟨hcv.1, hcv.2.1, hcv.2.2, rfl⟩
                  · cases z3
                obtain ⟨w1, w2, rfl, rfl⟩ := hzc
                obtain ⟨f1, f2, f3⟩ := hft z q z2
                refine call _ S2 hr2 hm2.2.2 hm2.1 hm2.2.1 (fun svr ad' H' locs' hsr hag' hle hMn => ⟨fun v' w ho => (by cases ho), fun x' E qa ce ho hE hce hcv hcl => ?_⟩)
                cases ho
                have hE' : XN.getD q "" = E := by rw [List.getD_eq_getElem?_getD, hE]; rfl
                rw [hE'] at f3
                refine vx_catch (own := cn (mO k)) (name := E) own (tableOf pre) ⟨z.1, z.2.1, z.2.2.1, z.2.2.2⟩ (tableOf suf) (by rw [htab, z1]; simp [tableOf]) (fun y hy => ?_) ?_ f1 (hts _ f3) (hts _ (ca_self hE)) hce hcv hcl ?_
                · obtain ⟨y', hy', rfl⟩ := List.mem_map.mp hy
                  obtain ⟨q', g1, g2⟩ := z4 y' hy'
                  exact pass E hE y' q' g1 g2
                · show (decide (z.1 ≤ pc) && decide (pc < z.2.1)) = true
                  rw [← Bool.decide_and, decide_eq_true_eq]; exact ⟨w1, w2⟩
                · refine ih k _ S2 o S1 hrun hk hl C (ad0 := ad0) (n0 := n0) (fun y hy => ?_) (Nat.le_trans hn0 hle) hMn (LR_mono hle hag' hL) ?_ (c0 := c0) (s0 := s0) (by omega) (by omega) hmc hms hR1 hR2
                  · rw [hag' y (hy.imp (fun q => Nat.lt_of_lt_of_le q hn0) id)]
                    exact hag y hy
                  · exact ⟨Or.inr ⟨_, rfl⟩, trivial⟩
              · next hh =>
                cases hrun
                rw [hnd_eq] at hh
                have hnn := hz_none _ _ _ hlx hh
                refine call _ _ hr2 (Nat.le_refl _) (Nat.le_refl _) (Nat.le_refl _) (fun svr ad' H' locs' hsr hag' hle hMn => ⟨fun v' w ho => (by cases ho), fun x' E qa ce ho hE hce hcv hcl => ?_⟩)
                cases ho
                refine vx_outP (own := cn (mO k)) (E := E) own C.2.2.2.2.2.2.2.2.1 (fun y hy => ?_) hce hcv hcl (fun t ht hal => ?_) hMn.2.2.1.2.2 (by omega) (by omega)
                · rw [htab] at hy
                  obtain ⟨y', hy', rfl⟩ := List.mem_map.mp hy
                  obtain ⟨q', g1, g2⟩ := hnn y' hy'
                  exact pass E hE y' q' g1 g2
                · refine ⟨x, ad', rfl, hE, ⟨fun y hy => ?_, Nat.le_trans hn0 hle, ?_⟩, ?_⟩
                  · rw [hag' y (hy.imp (fun q => Nat.lt_of_lt_of_le q hn0) id)]
                    exact hag y hy
                  · rw [ht]
                    exact hMn.at ⟨Nat.le_refl _, fun _ _ => rfl⟩
                  · exact hMn.2.2.1.F ht
          · cases hrun
