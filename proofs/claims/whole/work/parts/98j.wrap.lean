/-! BETWEEN TWO CALLS; the law's own methods (printed by gen/g98j.py) -/
/-- what stands between two calls -/
def IV (I J : F2) (g : F1) (hs : Nat → F1) (m : Nat) (tx : F1) (fl n : Nat) (e : Int) (D : Nat → Nat → Bool) : Prop := (J 136 = g) ∧ (SetR I J 1 g) ∧ (WF g) ∧ (Hist I J hs m) ∧ (MH J hs m) ∧ (I 135 3 = (m : Int)) ∧ (m ≤ 8) ∧ (∀ q, q < m → WF (hs q)) ∧ (WD I 114) ∧ (TXc I tx fl) ∧ (TXr I tx fl) ∧ (I 0 7 = I 135 13) ∧ (DR I 130 (n : Int) e D) ∧ (n ≤ 32) ∧ (I 135 22 = ((n * (n + 1) : Nat) : Int)) ∧ (∀ x, x < n * (n + 1) → I 144 x = wbF D n x)
theorem IV.hg {I J : F2} {g : F1} {hs : Nat → F1} {m : Nat} {tx : F1} {fl n : Nat} {e : Int} {D : Nat → Nat → Bool} (h : IV I J g hs m tx fl n e D) : J 136 = g := h.1
theorem IV.hR {I J : F2} {g : F1} {hs : Nat → F1} {m : Nat} {tx : F1} {fl n : Nat} {e : Int} {D : Nat → Nat → Bool} (h : IV I J g hs m tx fl n e D) : SetR I J 1 g := h.2.1
theorem IV.hw {I J : F2} {g : F1} {hs : Nat → F1} {m : Nat} {tx : F1} {fl n : Nat} {e : Int} {D : Nat → Nat → Bool} (h : IV I J g hs m tx fl n e D) : WF g := h.2.2.1
theorem IV.hH {I J : F2} {g : F1} {hs : Nat → F1} {m : Nat} {tx : F1} {fl n : Nat} {e : Int} {D : Nat → Nat → Bool} (h : IV I J g hs m tx fl n e D) : Hist I J hs m := h.2.2.2.1
theorem IV.hM {I J : F2} {g : F1} {hs : Nat → F1} {m : Nat} {tx : F1} {fl n : Nat} {e : Int} {D : Nat → Nat → Bool} (h : IV I J g hs m tx fl n e D) : MH J hs m := h.2.2.2.2.1
theorem IV.h3 {I J : F2} {g : F1} {hs : Nat → F1} {m : Nat} {tx : F1} {fl n : Nat} {e : Int} {D : Nat → Nat → Bool} (h : IV I J g hs m tx fl n e D) : I 135 3 = (m : Int) := h.2.2.2.2.2.1
theorem IV.h8 {I J : F2} {g : F1} {hs : Nat → F1} {m : Nat} {tx : F1} {fl n : Nat} {e : Int} {D : Nat → Nat → Bool} (h : IV I J g hs m tx fl n e D) : m ≤ 8 := h.2.2.2.2.2.2.1
theorem IV.hO {I J : F2} {g : F1} {hs : Nat → F1} {m : Nat} {tx : F1} {fl n : Nat} {e : Int} {D : Nat → Nat → Bool} (h : IV I J g hs m tx fl n e D) : ∀ q, q < m → WF (hs q) := h.2.2.2.2.2.2.2.1
theorem IV.hD {I J : F2} {g : F1} {hs : Nat → F1} {m : Nat} {tx : F1} {fl n : Nat} {e : Int} {D : Nat → Nat → Bool} (h : IV I J g hs m tx fl n e D) : WD I 114 := h.2.2.2.2.2.2.2.2.1
theorem IV.hX {I J : F2} {g : F1} {hs : Nat → F1} {m : Nat} {tx : F1} {fl n : Nat} {e : Int} {D : Nat → Nat → Bool} (h : IV I J g hs m tx fl n e D) : TXc I tx fl := h.2.2.2.2.2.2.2.2.2.1
theorem IV.hY {I J : F2} {g : F1} {hs : Nat → F1} {m : Nat} {tx : F1} {fl n : Nat} {e : Int} {D : Nat → Nat → Bool} (h : IV I J g hs m tx fl n e D) : TXr I tx fl := h.2.2.2.2.2.2.2.2.2.2.1
theorem IV.h9 {I J : F2} {g : F1} {hs : Nat → F1} {m : Nat} {tx : F1} {fl n : Nat} {e : Int} {D : Nat → Nat → Bool} (h : IV I J g hs m tx fl n e D) : I 0 7 = I 135 13 := h.2.2.2.2.2.2.2.2.2.2.2.1
theorem IV.hW {I J : F2} {g : F1} {hs : Nat → F1} {m : Nat} {tx : F1} {fl n : Nat} {e : Int} {D : Nat → Nat → Bool} (h : IV I J g hs m tx fl n e D) : DR I 130 (n : Int) e D := h.2.2.2.2.2.2.2.2.2.2.2.2.1
theorem IV.hn {I J : F2} {g : F1} {hs : Nat → F1} {m : Nat} {tx : F1} {fl n : Nat} {e : Int} {D : Nat → Nat → Bool} (h : IV I J g hs m tx fl n e D) : n ≤ 32 := h.2.2.2.2.2.2.2.2.2.2.2.2.2.1
theorem IV.hV {I J : F2} {g : F1} {hs : Nat → F1} {m : Nat} {tx : F1} {fl n : Nat} {e : Int} {D : Nat → Nat → Bool} (h : IV I J g hs m tx fl n e D) : I 135 22 = ((n * (n + 1) : Nat) : Int) := h.2.2.2.2.2.2.2.2.2.2.2.2.2.2.1
theorem IV.hE {I J : F2} {g : F1} {hs : Nat → F1} {m : Nat} {tx : F1} {fl n : Nat} {e : Int} {D : Nat → Nat → Bool} (h : IV I J g hs m tx fl n e D) : ∀ x, x < n * (n + 1) → I 144 x = wbF D n x := h.2.2.2.2.2.2.2.2.2.2.2.2.2.2.2
def INV (I J : F2) : Prop := ∃ (g : F1) (hs : Nat → F1) (m : Nat) (tx : F1) (fl n : Nat) (e : Int) (D : Nat → Nat → Bool), IV I J g hs m tx fl n e D
theorem IV.fr {I J I' J' : F2} {g : F1} {hs : Nat → F1} {m : Nat} {tx : F1} {fl n : Nat} {e : Int} {D : Nat → Nat → Bool} (h : IV I J g hs m tx fl n e D) (eI : ∀ a, a < 126 ∨ a = 130 ∨ a = 131 ∨ a = 139 ∨ a = 144 → I' a = I a) (e5 : ∀ f, f = 3 ∨ f = 6 ∨ f = 13 ∨ f = 22 → I' 135 f = I 135 f) (eJ : ∀ a, a < 126 ∨ a = 136 ∨ a = 138 → J' a = J a) : IV I' J' g hs m tx fl n e D := by
  refine ⟨?_, ?_, ?_, ?_, ?_, ?_, ?_, ?_, ?_, ?_, ?_, ?_, ?_, ?_, ?_, ?_⟩
  · exact (eJ 136 (by omega)).trans h.hg
  · exact h.hR.cell (fun c h1 h2 => ⟨eI c (by omega), eJ c (by omega)⟩)
  · exact h.hw
  · exact h.hH.cell (fun c h1 h2 => ⟨eI c (by omega), eJ c (by omega)⟩)
  · exact fun q k h1 h2 => by rw [eJ 138 (by omega)]; exact h.hM q k h1 h2
  · exact (e5 3 (by omega)).trans h.h3
  · exact h.h8
  · exact h.hO
  · exact ⟨(congrFun (eI 118 (by omega)) 0).trans h.hD.1, (congrFun (eI 122 (by omega)) 0).trans h.hD.2⟩
  · exact h.hX.cell (eI 112 (by omega)) (eI 113 (by omega))
  · exact ⟨(e5 6 (by omega)).trans h.hY.1, h.hY.2.1, fun k hk => by rw [eI 139 (by omega)]; exact h.hY.2.2 k hk⟩
  · exact by rw [eI 0 (by omega), e5 13 (by omega)]; exact h.h9
  · have hd := h.hW
    unfold DR at hd ⊢
    rw [eI 130 (by omega), eI (130 + 1) (by omega)]; exact hd
  · exact h.hn
  · exact (e5 22 (by omega)).trans h.hV
  · exact fun x hx => by rw [eI 144 (by omega)]; exact h.hE x hx
theorem IV.th {I J : F2} {g : F1} {hs : Nat → F1} {m : Nat} {tx : F1} {fl n : Nat} {e : Int} {D : Nat → Nat → Bool} (h : IV I J g hs m tx fl n e D) (t : Int) : IV (up2 I 135 4 t) J g hs m tx fl n e D :=
  h.fr (fun a ha => up2_row _ _ _ _ (by omega)) (fun f hf => up2_ne2 _ _ _ _ (by omega)) (fun _ _ => rfl)
theorem IV.qu {I J I1 I2 : F2} {g : F1} {hs : Nat → F1} {m : Nat} {tx : F1} {fl n : Nat} {e : Int} {D : Nat → Nat → Bool} (h : IV I J g hs m tx fl n e D) {z : Int} (h1 : scrC I I1) (h2 : scrM (up2 I1 135 4 0) I2) : IV I2 (up2 J 145 0 z) g hs m tx fl n e D :=
  h.fr (fun a ha => (h2.1 a (by omega) (by omega) (by omega) (by omega) (by omega)).trans ((up2_row _ _ _ _ (by omega)).trans (h1 a (by omega)))) (fun f hf => (h2.2 f (by omega) (by omega)).trans ((up2_ne2 _ _ _ _ (by omega)).trans (congrFun (h1 135 (by omega)) f))) (fun a ha => up2_row _ _ _ _ (by omega))
theorem remM_8 {m : Nat} (h : m ≤ 8) : remM m ≤ 8 := by unfold remM; by_cases e : m = 8 <;> simp [e] <;> omega
theorem rem_wf {hs : Nat → F1} {m : Nat} {g : F1} (h : ∀ q, q < m → WF (hs q)) (hw : WF g) (h8 : m ≤ 8) : ∀ q, q < remM m → WF (remH hs m g q) := by
  intro q hq
  unfold remM at hq
  unfold remH
  by_cases e : m = 8
  · rw [if_pos e]
    by_cases e2 : q < 7
    · rw [if_pos e2]; exact h _ (by omega)
    · rw [if_neg e2]; exact hw
  · rw [if_neg e]
    rw [if_neg e] at hq
    by_cases e2 : q = m
    · rw [if_pos e2]; exact hw
    · rw [if_neg e2]; exact h _ (by omega)
theorem IV.chg {I J I1 J1 I2 J2 : F2} {g : F1} {hs : Nat → F1} {m : Nat} {tx : F1} {fl n : Nat} {e : Int} {D : Nat → Nat → Bool} (h : IV I J g hs m tx fl n e D) {z : Int} {G : F1} (hG : WF G) (h1 : onlyC I I1 J J1 ∧ Hist I1 J1 (remH hs m g) (remM m) ∧ SetR I1 J1 1 G) (h2 : NewR I1 I2 (up2 J1 145 0 z) J2 hs m g G) : IV I2 J2 G (remH hs m g) (remM m) tx fl n e D := by
  refine ⟨?_, ?_, ?_, ?_, ?_, ?_, ?_, ?_, ?_, ?_, ?_, ?_, ?_, ?_, ?_, ?_⟩
  · exact h2.2.1
  · exact h1.2.2.cell (fun c c1 c2 => ⟨h2.1.1 c (by omega), (h2.1.2.2.2 c (by omega) (by omega)).trans (up2_row _ _ _ _ (by omega))⟩)
  · exact hG
  · exact h1.2.1.cell (fun c c1 c2 => ⟨h2.1.1 c (by omega), (h2.1.2.2.2 c (by omega) (by omega)).trans (up2_row _ _ _ _ (by omega))⟩)
  · exact h2.2.2.1
  · exact h2.2.2.2
  · exact remM_8 h.h8
  · exact rem_wf h.hO h.hw h.h8
  · exact ⟨(congrFun (h2.1.1 118 (by omega)) 0).trans ((congrFun (h1.1 118 (by omega)).1 0).trans h.hD.1), (congrFun (h2.1.1 122 (by omega)) 0).trans ((congrFun (h1.1 122 (by omega)).1 0).trans h.hD.2)⟩
  · exact h.hX.cell ((h2.1.1 112 (by omega)).trans (h1.1 112 (by omega)).1) ((h2.1.1 113 (by omega)).trans (h1.1 113 (by omega)).1)
  · exact ⟨(h2.1.2.1 6 (by omega) (by omega)).trans ((congrFun (h1.1 135 (by omega)).1 6).trans h.hY.1), h.hY.2.1, fun k hk => by rw [(h2.1.1 139 (by omega)).trans (h1.1 139 (by omega)).1]; exact h.hY.2.2 k hk⟩
  · exact by rw [(h2.1.1 0 (by omega)).trans (h1.1 0 (by omega)).1, (h2.1.2.1 13 (by omega) (by omega)).trans (congrFun (h1.1 135 (by omega)).1 13)]; exact h.h9
  · have hd := h.hW
    unfold DR at hd ⊢
    rw [(h2.1.1 130 (by omega)).trans (h1.1 130 (by omega)).1, (h2.1.1 (130 + 1) (by omega)).trans (h1.1 (130 + 1) (by omega)).1]; exact hd
  · exact h.hn
  · exact (h2.1.2.1 22 (by omega) (by omega)).trans ((congrFun (h1.1 135 (by omega)).1 22).trans h.hV)
  · exact fun x hx => by rw [(h2.1.1 144 (by omega)).trans (h1.1 144 (by omega)).1]; exact h.hE x hx
/-- a call that ends with a number of its own -/
def PT (cc ss : Nat) (R : Nat → Nat → F2 → F2 → Prop) : (Option AV ⊕ Nat) → AS → Prop := fun o T => ∃ (t c : Nat) (I1 J1 : F2), T = MS I1 J1 (cc + c) (ss + 6 * c) ∧ o = .inl (some (vi (t : Int))) ∧ R t c I1 J1
theorem ev_ct {X : AX} {k pc len j cc ss : Nat} {L : ALs} {st : List AV} {S : AS} {I : Instr} {ax : Nat × Nat × Nat} {as rest : List AV} {Q : (Option AV ⊕ Nat) → AS → Prop} {R : Nat → Nat → F2 → F2 → Prop} (hcd : cdAt k pc = some (I, len, ax)) (hst : stp X I ax L st S = none) (hc : ctl I len ax (pc, L, st) S = some (.inr (.inl (j, as, rest)))) (hen : (entL as).length ≤ mL j ∧ (rest.map acat).sum ≤ 8) (he : Ev X j (0, entL as ++ List.replicate (mL j - (entL as).length) none, []) S (PT cc ss R)) (hk : ∀ t c I1 J1, R t c I1 J1 → Ev X k (pc + len, L, vi (t : Int) :: rest) (MS I1 J1 (cc + c) (ss + 6 * c)) Q) : Ev X k (pc, L, st) S Q :=
  ev_c hcd hst hc hen he (fun w T q => by obtain ⟨t, c, I1, J1, rfl, q1, q2⟩ := q; cases q1; exact hk _ _ _ _ q2) (fun x T q => by obtain ⟨t, c, I1, J1, _, q1, _⟩ := q; cases q1)
/-- a call on both sides: what the law's method ends with is what the reference threw, and with none thrown both answer the same -/
def Two (X : AX) (kL kR : Nat) (a b : AF) (B : Int → Prop) (I J : F2) (cc ss : Nat) : Prop :=
  Ev X kL a (MS I J cc ss) (PT cc ss (fun t c I1 J1 => c ≤ 1 ∧ Ev X kR b (MS I1 J1 (cc + c) (ss + 6 * c)) (PZ (cc + c) (ss + 6 * c) (fun r I2 J2 => I2 135 4 = (t : Int) ∧ (t = 0 → J2 145 0 = r ∧ B r) ∧ INV I2 J2))))
/-- the form of what the law's method ends with, with nothing thrown -/
def PWr (cc ss : Nat) (P : Int → F2 → F2 → Prop) : (Option AV ⊕ Nat) → AS → Prop := PV cc ss (some (vi 0)) (fun I' J' => ∃ z J1, J' = up2 J1 145 0 z ∧ P z I' J1)
theorem two_ok {X : AX} {kL kR : Nat} {a b : AF} {B : Int → Prop} {I J : F2} {cc ss : Nat} {P : Int → F2 → F2 → Prop} (hw : Ev X kL a (MS I J cc ss) (PWr cc ss P)) (hr : ∀ z I1 J1, P z I1 J1 → Ev X kR b (MS I1 (up2 J1 145 0 z) cc ss) (PZ cc ss (fun r I2 J2 => I2 135 4 = 0 ∧ (J2 145 0 = r ∧ B r) ∧ INV I2 J2))) : Two X kL kR a b B I J cc ss := by
  refine hw.mono (fun o T q => ?_)
  obtain ⟨I1, J', rfl, rfl, z, J1, rfl, hp⟩ := q
  exact ⟨0, 0, I1, _, rfl, rfl, Nat.zero_le _, (hr z I1 J1 hp).mono (fun o T q => by
    obtain ⟨r, I2, J2, rfl, rfl, h1, h2, h3⟩ := q
    exact ⟨r, I2, J2, rfl, rfl, h1, fun _ => h2, h3⟩)⟩
theorem two_x {X : AX} {kL kR : Nat} {a b : AF} {B : Int → Prop} {I J : F2} {cc ss : Nat} (t : Nat) (ht : 0 < t) (hw : Ev X kL a (MS I J cc ss) (fun o T => o = .inl (some (vi (t : Int))) ∧ T = MS I J (cc + 1) (ss + 6))) (hr : Ev X kR b (MS I J (cc + 1) (ss + 6)) (fun o T => o = .inl (some (vi 0)) ∧ T = MS (up2 I 135 4 (t : Int)) J (cc + 1) (ss + 6))) (hI : INV I J) : Two X kL kR a b B I J cc ss := by
  refine hw.mono (fun o T q => ?_)
  obtain ⟨rfl, rfl⟩ := q
  refine ⟨t, 1, I, J, rfl, rfl, Nat.le_refl _, hr.mono (fun o T q => ?_)⟩
  obtain ⟨rfl, rfl⟩ := q
  obtain ⟨g, hs, m, tx, fl, n, e, D, h⟩ := hI
  exact ⟨0, _, _, rfl, rfl, up2_same _ _ _ _, fun h0 => absurd h0 (by omega), g, hs, m, tx, fl, n, e, D, h.th _⟩
theorem PV.pz {cc ss : Nat} {z : Int} {P : F2 → F2 → Prop} {o : Option AV ⊕ Nat} {T : AS} (h : PV cc ss (some (vi z)) P o T) : PZ cc ss (fun z' I' J' => z' = z ∧ P I' J') o T := by
  obtain ⟨I', J', h1, h2, h3⟩ := h; exact ⟨z, I', J', h1, h2, rfl, h3⟩
/-- a question -/
theorem two_q {X : AX} {kL kR : Nat} {a b : AF} {B : Int → Prop} {I J : F2} {cc ss : Nat} {z : Int} (hI : INV I J) (hB : B z) (hw : Ev X kL a (MS I J cc ss) (PWr cc ss (fun z' I' J' => z' = z ∧ J' = J ∧ scrC I I'))) (hr : ∀ I1, scrC I I1 → Ev X kR b (MS I1 (up2 J 145 0 z) cc ss) (PV cc ss (some (vi z)) (fun I2 J2 => J2 = up2 J 145 0 z ∧ scrM (up2 I1 135 4 0) I2))) : Two X kL kR a b B I J cc ss := by
  refine two_ok hw (fun z' I1 J1 hp => ?_)
  obtain ⟨rfl, rfl, hs⟩ := hp
  refine (hr I1 hs).mono (fun o T q => ?_)
  obtain ⟨I2, J2, rfl, rfl, rfl, h2⟩ := q
  obtain ⟨g, hs9, m, tx, fl, n, e, D, h⟩ := hI
  exact ⟨z', _, _, rfl, rfl, (h2.2 4 (by decide) (by decide)).trans (up2_same _ _ _ _), ⟨up2_same _ _ _ _, hB⟩, g, hs9, m, tx, fl, n, e, D, h.qu hs h2⟩
/-- a change -/
theorem two_c {X : AX} {kL kR : Nat} {a b : AF} {B : Int → Prop} {I J : F2} {cc ss : Nat} {z : Int} {g : F1} {hs : Nat → F1} {m : Nat} {tx : F1} {fl n : Nat} {e : Int} {D : Nat → Nat → Bool} (hI : IV I J g hs m tx fl n e D) (hB : B z) {G : F1} (hG : WF G) (hw : Ev X kL a (MS I J cc ss) (PWr cc ss (fun z' I' J' => z' = z ∧ onlyC I I' J J' ∧ Hist I' J' (remH hs m g) (remM m) ∧ SetR I' J' 1 G))) (hr : ∀ I1 J1, J1 136 = g → I1 135 3 = (m : Int) → MH J1 hs m → Ev X kR b (MS I1 J1 cc ss) (PV cc ss (some (vi z)) (fun I2 J2 => NewR I1 I2 J1 J2 hs m g G))) : Two X kL kR a b B I J cc ss := by
  refine two_ok hw (fun z' I1 J1 hp => ?_)
  obtain ⟨rfl, ho, hp⟩ := hp
  refine (hr I1 (up2 J1 145 0 z') ((up2_row _ _ _ _ (by decide)).trans ((ho 136 (by omega)).2.trans hI.hg)) ((congrFun (ho 135 (by omega)).1 3).trans hI.h3) (fun q k h1 h2 => by rw [up2_row _ _ _ _ (by decide), (ho 138 (by omega)).2]; exact hI.hM q k h1 h2)).mono (fun o T q => ?_)
  obtain ⟨I2, J2, rfl, rfl, h2⟩ := q
  exact ⟨z', _, _, rfl, rfl, h2.1.2.2.1, ⟨(congrFun (h2.1.2.2.2 145 (by decide) (by decide)) 0).trans (up2_same _ _ _ _), hB⟩, G, _, _, tx, fl, n, e, D, hI.chg hG ⟨ho, hp⟩ h2⟩
theorem wl_append (X : AX) (I J : Nat → Nat → Int) (cc ss : Nat) (a1 a2 a3 a4 a5 : Int) {P : Int → F2 → F2 → Prop} (h : Ev X k_X8_append (0, [some (vr 0), some (vi a1), some (vi a2), some (vi a3), some (vi a4), some (vi a5)], []) (MS I J cc ss) (PZ cc ss P)) : Ev X k_L_append (0, [some (vr 0), some (vi a1), some (vi a2), some (vi a3), some (vi a4), some (vi a5), some (vr 145), none], []) (MS I J cc ss) (PWr cc ss P) := by
  refine ev_n (fr' := (11, [some (vr 0), some (vi a1), some (vi a2), some (vi a3), some (vi a4), some (vi a5), some (vr 145), none], [vi a5, vi a4, vi a3, vi a2, vi a1, vr 0, vi 0, vr 145])) (S' := MS I J cc ss) 8 rfl ?_
  refine ev_cz rfl rfl rfl ⟨Nat.le_of_ble_eq_true rfl, Nat.le_of_ble_eq_true rfl⟩ (h) (fun z1 I1 J1 q1 => ?_)
  obtain q1 := q1
  show Ev X k_L_append (14, [some (vr 0), some (vi a1), some (vi a2), some (vi a3), some (vi a4), some (vi a5), some (vr 145), none], [vi z1, vi 0, vr 145]) (MS I1 J1 cc ss) _
  have hp := q1
  refine ev_n (fr' := (15, [some (vr 0), some (vi a1), some (vi a2), some (vi a3), some (vi a4), some (vi a5), some (vr 145), none], [vl z1, vi 0, vr 145])) (S' := MS I1 J1 cc ss) 1 rfl ?_
  refine ev_lasN (j := 0) rfl rfl (by omega) (by omega) ?_
  show Ev X k_L_append (16, [some (vr 0), some (vi a1), some (vi a2), some (vi a3), some (vi a4), some (vi a5), some (vr 145), none], []) (MS I1 (up2 J1 145 0 z1) cc ss) _
  refine ev_n (fr' := (24, [some (vr 0), some (vi a1), some (vi a2), some (vi a3), some (vi a4), some (vi a5), some (vr 145), none], [vi 0])) (S' := MS I1 (up2 J1 145 0 z1) cc ss) 2 rfl ?_
  refine ev_r rfl rfl rfl ?_
  exact ⟨_, _, rfl, rfl, _, _, rfl, hp⟩
theorem wx_append_0 (X : AX) (I J : Nat → Nat → Int) (cc ss : Nat) (a1 a2 a3 a4 a5 : Int) (h : Ev X k_X8_append (0, [some (vr 0), some (vi a1), some (vi a2), some (vi a3), some (vi a4), some (vi a5)], []) (MS I J cc ss) (fun o T => o = .inr 0 ∧ T = MS I J (cc + 1) (ss + 6))) : Ev X k_L_append (0, [some (vr 0), some (vi a1), some (vi a2), some (vi a3), some (vi a4), some (vi a5), some (vr 145), none], []) (MS I J cc ss) (fun o T => o = .inl (some (vi 1)) ∧ T = MS I J (cc + 1) (ss + 6)) := by
  refine ev_n (fr' := (11, [some (vr 0), some (vi a1), some (vi a2), some (vi a3), some (vi a4), some (vi a5), some (vr 145), none], [vi a5, vi a4, vi a3, vi a2, vi a1, vr 0, vi 0, vr 145])) (S' := MS I J cc ss) 8 rfl ?_
  refine ev_ch rfl rfl rfl ⟨Nat.le_of_ble_eq_true rfl, Nat.le_of_ble_eq_true rfl⟩ (h) rfl ?_
  show Ev X k_L_append (19, [some (vr 0), some (vi a1), some (vi a2), some (vi a3), some (vi a4), some (vi a5), some (vr 145), none], [vj]) (MS I J (cc + 1) (ss + 6)) _
  refine ev_n (fr' := (22, [some (vr 0), some (vi a1), some (vi a2), some (vi a3), some (vi a4), some (vi a5), some (vr 145), some (vj)], [vi 1])) (S' := MS I J (cc + 1) (ss + 6)) 2 rfl ?_
  refine ev_r rfl rfl rfl ?_
  exact ⟨rfl, rfl⟩
theorem wl_load (X : AX) (I J : Nat → Nat → Int) (cc ss : Nat) (a1 : Int) {P : Int → F2 → F2 → Prop} (h : Ev X k_X8_load (0, [some (vr 0), some (vi a1), none], []) (MS I J cc ss) (PZ cc ss P)) : Ev X k_L_load (0, [some (vr 0), some (vi a1), some (vr 145), none], []) (MS I J cc ss) (PWr cc ss P) := by
  refine ev_n (fr' := (4, [some (vr 0), some (vi a1), some (vr 145), none], [vi a1, vr 0, vi 0, vr 145])) (S' := MS I J cc ss) 4 rfl ?_
  refine ev_cz rfl rfl rfl ⟨Nat.le_of_ble_eq_true rfl, Nat.le_of_ble_eq_true rfl⟩ (h) (fun z1 I1 J1 q1 => ?_)
  obtain q1 := q1
  show Ev X k_L_load (7, [some (vr 0), some (vi a1), some (vr 145), none], [vi z1, vi 0, vr 145]) (MS I1 J1 cc ss) _
  have hp := q1
  refine ev_n (fr' := (8, [some (vr 0), some (vi a1), some (vr 145), none], [vl z1, vi 0, vr 145])) (S' := MS I1 J1 cc ss) 1 rfl ?_
  refine ev_lasN (j := 0) rfl rfl (by omega) (by omega) ?_
  show Ev X k_L_load (9, [some (vr 0), some (vi a1), some (vr 145), none], []) (MS I1 (up2 J1 145 0 z1) cc ss) _
  refine ev_n (fr' := (16, [some (vr 0), some (vi a1), some (vr 145), none], [vi 0])) (S' := MS I1 (up2 J1 145 0 z1) cc ss) 2 rfl ?_
  refine ev_r rfl rfl rfl ?_
  exact ⟨_, _, rfl, rfl, _, _, rfl, hp⟩
theorem wx_load_1 (X : AX) (I J : Nat → Nat → Int) (cc ss : Nat) (a1 : Int) (h : Ev X k_X8_load (0, [some (vr 0), some (vi a1), none], []) (MS I J cc ss) (fun o T => o = .inr 1 ∧ T = MS I J (cc + 1) (ss + 6))) : Ev X k_L_load (0, [some (vr 0), some (vi a1), some (vr 145), none], []) (MS I J cc ss) (fun o T => o = .inl (some (vi 1)) ∧ T = MS I J (cc + 1) (ss + 6)) := by
  refine ev_n (fr' := (4, [some (vr 0), some (vi a1), some (vr 145), none], [vi a1, vr 0, vi 0, vr 145])) (S' := MS I J cc ss) 4 rfl ?_
  refine ev_ch rfl rfl rfl ⟨Nat.le_of_ble_eq_true rfl, Nat.le_of_ble_eq_true rfl⟩ (h) rfl ?_
  show Ev X k_L_load (12, [some (vr 0), some (vi a1), some (vr 145), none], [vj]) (MS I J (cc + 1) (ss + 6)) _
  refine ev_n (fr' := (14, [some (vr 0), some (vi a1), some (vr 145), some (vj)], [vi 1])) (S' := MS I J (cc + 1) (ss + 6)) 2 rfl ?_
  refine ev_r rfl rfl rfl ?_
  exact ⟨rfl, rfl⟩
theorem wl_count (X : AX) (I J : Nat → Nat → Int) (cc ss : Nat) (a1 : Int) {P : Int → F2 → F2 → Prop} (h : Ev X k_X8_count (0, [some (vr 0), some (vi a1)], []) (MS I J cc ss) (PZ cc ss P)) : Ev X k_L_count (0, [some (vr 0), some (vi a1), some (vr 145), none], []) (MS I J cc ss) (PWr cc ss P) := by
  refine ev_n (fr' := (4, [some (vr 0), some (vi a1), some (vr 145), none], [vi a1, vr 0, vi 0, vr 145])) (S' := MS I J cc ss) 4 rfl ?_
  refine ev_cz rfl rfl rfl ⟨Nat.le_of_ble_eq_true rfl, Nat.le_of_ble_eq_true rfl⟩ (h) (fun z1 I1 J1 q1 => ?_)
  obtain q1 := q1
  show Ev X k_L_count (7, [some (vr 0), some (vi a1), some (vr 145), none], [vi z1, vi 0, vr 145]) (MS I1 J1 cc ss) _
  have hp := q1
  refine ev_n (fr' := (8, [some (vr 0), some (vi a1), some (vr 145), none], [vl z1, vi 0, vr 145])) (S' := MS I1 J1 cc ss) 1 rfl ?_
  refine ev_lasN (j := 0) rfl rfl (by omega) (by omega) ?_
  show Ev X k_L_count (9, [some (vr 0), some (vi a1), some (vr 145), none], []) (MS I1 (up2 J1 145 0 z1) cc ss) _
  refine ev_n (fr' := (16, [some (vr 0), some (vi a1), some (vr 145), none], [vi 0])) (S' := MS I1 (up2 J1 145 0 z1) cc ss) 2 rfl ?_
  refine ev_r rfl rfl rfl ?_
  exact ⟨_, _, rfl, rfl, _, _, rfl, hp⟩
theorem wx_count_1 (X : AX) (I J : Nat → Nat → Int) (cc ss : Nat) (a1 : Int) (h : Ev X k_X8_count (0, [some (vr 0), some (vi a1)], []) (MS I J cc ss) (fun o T => o = .inr 1 ∧ T = MS I J (cc + 1) (ss + 6))) : Ev X k_L_count (0, [some (vr 0), some (vi a1), some (vr 145), none], []) (MS I J cc ss) (fun o T => o = .inl (some (vi 1)) ∧ T = MS I J (cc + 1) (ss + 6)) := by
  refine ev_n (fr' := (4, [some (vr 0), some (vi a1), some (vr 145), none], [vi a1, vr 0, vi 0, vr 145])) (S' := MS I J cc ss) 4 rfl ?_
  refine ev_ch rfl rfl rfl ⟨Nat.le_of_ble_eq_true rfl, Nat.le_of_ble_eq_true rfl⟩ (h) rfl ?_
  show Ev X k_L_count (12, [some (vr 0), some (vi a1), some (vr 145), none], [vj]) (MS I J (cc + 1) (ss + 6)) _
  refine ev_n (fr' := (14, [some (vr 0), some (vi a1), some (vr 145), some (vj)], [vi 1])) (S' := MS I J (cc + 1) (ss + 6)) 2 rfl ?_
  refine ev_r rfl rfl rfl ?_
  exact ⟨rfl, rfl⟩
theorem wl_addSize (X : AX) (I J : Nat → Nat → Int) (cc ss : Nat) (a1 : Int) {P : Int → F2 → F2 → Prop} (h : Ev X k_X8_addSize (0, [some (vr 0), some (vi a1)], []) (MS I J cc ss) (PZ cc ss P)) : Ev X k_L_addSize (0, [some (vr 0), some (vi a1), some (vr 145), none], []) (MS I J cc ss) (PWr cc ss P) := by
  refine ev_n (fr' := (4, [some (vr 0), some (vi a1), some (vr 145), none], [vi a1, vr 0, vi 0, vr 145])) (S' := MS I J cc ss) 4 rfl ?_
  refine ev_cz rfl rfl rfl ⟨Nat.le_of_ble_eq_true rfl, Nat.le_of_ble_eq_true rfl⟩ (h) (fun z1 I1 J1 q1 => ?_)
  obtain q1 := q1
  show Ev X k_L_addSize (7, [some (vr 0), some (vi a1), some (vr 145), none], [vi z1, vi 0, vr 145]) (MS I1 J1 cc ss) _
  have hp := q1
  refine ev_n (fr' := (8, [some (vr 0), some (vi a1), some (vr 145), none], [vl z1, vi 0, vr 145])) (S' := MS I1 J1 cc ss) 1 rfl ?_
  refine ev_lasN (j := 0) rfl rfl (by omega) (by omega) ?_
  show Ev X k_L_addSize (9, [some (vr 0), some (vi a1), some (vr 145), none], []) (MS I1 (up2 J1 145 0 z1) cc ss) _
  refine ev_n (fr' := (19, [some (vr 0), some (vi a1), some (vr 145), none], [vi 0])) (S' := MS I1 (up2 J1 145 0 z1) cc ss) 2 rfl ?_
  refine ev_r rfl rfl rfl ?_
  exact ⟨_, _, rfl, rfl, _, _, rfl, hp⟩
theorem wx_addSize_1 (X : AX) (I J : Nat → Nat → Int) (cc ss : Nat) (a1 : Int) (h : Ev X k_X8_addSize (0, [some (vr 0), some (vi a1)], []) (MS I J cc ss) (fun o T => o = .inr 1 ∧ T = MS I J (cc + 1) (ss + 6))) : Ev X k_L_addSize (0, [some (vr 0), some (vi a1), some (vr 145), none], []) (MS I J cc ss) (fun o T => o = .inl (some (vi 1)) ∧ T = MS I J (cc + 1) (ss + 6)) := by
  refine ev_n (fr' := (4, [some (vr 0), some (vi a1), some (vr 145), none], [vi a1, vr 0, vi 0, vr 145])) (S' := MS I J cc ss) 4 rfl ?_
  refine ev_ch rfl rfl rfl ⟨Nat.le_of_ble_eq_true rfl, Nat.le_of_ble_eq_true rfl⟩ (h) rfl ?_
  show Ev X k_L_addSize (12, [some (vr 0), some (vi a1), some (vr 145), none], [vj]) (MS I J (cc + 1) (ss + 6)) _
  refine ev_n (fr' := (14, [some (vr 0), some (vi a1), some (vr 145), some (vj)], [vi 1])) (S' := MS I J (cc + 1) (ss + 6)) 2 rfl ?_
  refine ev_r rfl rfl rfl ?_
  exact ⟨rfl, rfl⟩
theorem wx_addSize_0 (X : AX) (I J : Nat → Nat → Int) (cc ss : Nat) (a1 : Int) (h : Ev X k_X8_addSize (0, [some (vr 0), some (vi a1)], []) (MS I J cc ss) (fun o T => o = .inr 0 ∧ T = MS I J (cc + 1) (ss + 6))) : Ev X k_L_addSize (0, [some (vr 0), some (vi a1), some (vr 145), none], []) (MS I J cc ss) (fun o T => o = .inl (some (vi 2)) ∧ T = MS I J (cc + 1) (ss + 6)) := by
  refine ev_n (fr' := (4, [some (vr 0), some (vi a1), some (vr 145), none], [vi a1, vr 0, vi 0, vr 145])) (S' := MS I J cc ss) 4 rfl ?_
  refine ev_ch rfl rfl rfl ⟨Nat.le_of_ble_eq_true rfl, Nat.le_of_ble_eq_true rfl⟩ (h) rfl ?_
  show Ev X k_L_addSize (15, [some (vr 0), some (vi a1), some (vr 145), none], [vj]) (MS I J (cc + 1) (ss + 6)) _
  refine ev_n (fr' := (17, [some (vr 0), some (vi a1), some (vr 145), some (vj)], [vi 2])) (S' := MS I J (cc + 1) (ss + 6)) 2 rfl ?_
  refine ev_r rfl rfl rfl ?_
  exact ⟨rfl, rfl⟩
theorem wl_removeSize (X : AX) (I J : Nat → Nat → Int) (cc ss : Nat) (a1 : Int) {P : Int → F2 → F2 → Prop} (h : Ev X k_X8_removeSize (0, [some (vr 0), some (vi a1)], []) (MS I J cc ss) (PZ cc ss P)) : Ev X k_L_removeSize (0, [some (vr 0), some (vi a1), some (vr 145), none], []) (MS I J cc ss) (PWr cc ss P) := by
  refine ev_n (fr' := (4, [some (vr 0), some (vi a1), some (vr 145), none], [vi a1, vr 0, vi 0, vr 145])) (S' := MS I J cc ss) 4 rfl ?_
  refine ev_cz rfl rfl rfl ⟨Nat.le_of_ble_eq_true rfl, Nat.le_of_ble_eq_true rfl⟩ (h) (fun z1 I1 J1 q1 => ?_)
  obtain q1 := q1
  show Ev X k_L_removeSize (7, [some (vr 0), some (vi a1), some (vr 145), none], [vi z1, vi 0, vr 145]) (MS I1 J1 cc ss) _
  have hp := q1
  refine ev_n (fr' := (8, [some (vr 0), some (vi a1), some (vr 145), none], [vl z1, vi 0, vr 145])) (S' := MS I1 J1 cc ss) 1 rfl ?_
  refine ev_lasN (j := 0) rfl rfl (by omega) (by omega) ?_
  show Ev X k_L_removeSize (9, [some (vr 0), some (vi a1), some (vr 145), none], []) (MS I1 (up2 J1 145 0 z1) cc ss) _
  refine ev_n (fr' := (16, [some (vr 0), some (vi a1), some (vr 145), none], [vi 0])) (S' := MS I1 (up2 J1 145 0 z1) cc ss) 2 rfl ?_
  refine ev_r rfl rfl rfl ?_
  exact ⟨_, _, rfl, rfl, _, _, rfl, hp⟩
theorem wx_removeSize_2 (X : AX) (I J : Nat → Nat → Int) (cc ss : Nat) (a1 : Int) (h : Ev X k_X8_removeSize (0, [some (vr 0), some (vi a1)], []) (MS I J cc ss) (fun o T => o = .inr 2 ∧ T = MS I J (cc + 1) (ss + 6))) : Ev X k_L_removeSize (0, [some (vr 0), some (vi a1), some (vr 145), none], []) (MS I J cc ss) (fun o T => o = .inl (some (vi 1)) ∧ T = MS I J (cc + 1) (ss + 6)) := by
  refine ev_n (fr' := (4, [some (vr 0), some (vi a1), some (vr 145), none], [vi a1, vr 0, vi 0, vr 145])) (S' := MS I J cc ss) 4 rfl ?_
  refine ev_ch rfl rfl rfl ⟨Nat.le_of_ble_eq_true rfl, Nat.le_of_ble_eq_true rfl⟩ (h) rfl ?_
  show Ev X k_L_removeSize (12, [some (vr 0), some (vi a1), some (vr 145), none], [vj]) (MS I J (cc + 1) (ss + 6)) _
  refine ev_n (fr' := (14, [some (vr 0), some (vi a1), some (vr 145), some (vj)], [vi 1])) (S' := MS I J (cc + 1) (ss + 6)) 2 rfl ?_
  refine ev_r rfl rfl rfl ?_
  exact ⟨rfl, rfl⟩
theorem wl_size (X : AX) (I J : Nat → Nat → Int) (cc ss : Nat) (a1 a2 : Int) {P : Int → F2 → F2 → Prop} (h : Ev X k_X8_size (0, [some (vr 0), some (vi a1), some (vi a2)], []) (MS I J cc ss) (PZ cc ss P)) : Ev X k_L_size (0, [some (vr 0), some (vi a1), some (vi a2), some (vr 145), none], []) (MS I J cc ss) (PWr cc ss P) := by
  refine ev_n (fr' := (5, [some (vr 0), some (vi a1), some (vi a2), some (vr 145), none], [vi a2, vi a1, vr 0, vi 0, vr 145])) (S' := MS I J cc ss) 5 rfl ?_
  refine ev_cz rfl rfl rfl ⟨Nat.le_of_ble_eq_true rfl, Nat.le_of_ble_eq_true rfl⟩ (h) (fun z1 I1 J1 q1 => ?_)
  obtain q1 := q1
  show Ev X k_L_size (8, [some (vr 0), some (vi a1), some (vi a2), some (vr 145), none], [vi z1, vi 0, vr 145]) (MS I1 J1 cc ss) _
  have hp := q1
  refine ev_n (fr' := (9, [some (vr 0), some (vi a1), some (vi a2), some (vr 145), none], [vl z1, vi 0, vr 145])) (S' := MS I1 J1 cc ss) 1 rfl ?_
  refine ev_lasN (j := 0) rfl rfl (by omega) (by omega) ?_
  show Ev X k_L_size (10, [some (vr 0), some (vi a1), some (vi a2), some (vr 145), none], []) (MS I1 (up2 J1 145 0 z1) cc ss) _
  refine ev_n (fr' := (22, [some (vr 0), some (vi a1), some (vi a2), some (vr 145), none], [vi 0])) (S' := MS I1 (up2 J1 145 0 z1) cc ss) 2 rfl ?_
  refine ev_r rfl rfl rfl ?_
  exact ⟨_, _, rfl, rfl, _, _, rfl, hp⟩
theorem wx_size_2 (X : AX) (I J : Nat → Nat → Int) (cc ss : Nat) (a1 a2 : Int) (h : Ev X k_X8_size (0, [some (vr 0), some (vi a1), some (vi a2)], []) (MS I J cc ss) (fun o T => o = .inr 2 ∧ T = MS I J (cc + 1) (ss + 6))) : Ev X k_L_size (0, [some (vr 0), some (vi a1), some (vi a2), some (vr 145), none], []) (MS I J cc ss) (fun o T => o = .inl (some (vi 1)) ∧ T = MS I J (cc + 1) (ss + 6)) := by
  refine ev_n (fr' := (5, [some (vr 0), some (vi a1), some (vi a2), some (vr 145), none], [vi a2, vi a1, vr 0, vi 0, vr 145])) (S' := MS I J cc ss) 5 rfl ?_
  refine ev_ch rfl rfl rfl ⟨Nat.le_of_ble_eq_true rfl, Nat.le_of_ble_eq_true rfl⟩ (h) rfl ?_
  show Ev X k_L_size (13, [some (vr 0), some (vi a1), some (vi a2), some (vr 145), none], [vj]) (MS I J (cc + 1) (ss + 6)) _
  refine ev_n (fr' := (16, [some (vr 0), some (vi a1), some (vi a2), some (vr 145), some (vj)], [vi 1])) (S' := MS I J (cc + 1) (ss + 6)) 2 rfl ?_
  refine ev_r rfl rfl rfl ?_
  exact ⟨rfl, rfl⟩
theorem wx_size_1 (X : AX) (I J : Nat → Nat → Int) (cc ss : Nat) (a1 a2 : Int) (h : Ev X k_X8_size (0, [some (vr 0), some (vi a1), some (vi a2)], []) (MS I J cc ss) (fun o T => o = .inr 1 ∧ T = MS I J (cc + 1) (ss + 6))) : Ev X k_L_size (0, [some (vr 0), some (vi a1), some (vi a2), some (vr 145), none], []) (MS I J cc ss) (fun o T => o = .inl (some (vi 2)) ∧ T = MS I J (cc + 1) (ss + 6)) := by
  refine ev_n (fr' := (5, [some (vr 0), some (vi a1), some (vi a2), some (vr 145), none], [vi a2, vi a1, vr 0, vi 0, vr 145])) (S' := MS I J cc ss) 5 rfl ?_
  refine ev_ch rfl rfl rfl ⟨Nat.le_of_ble_eq_true rfl, Nat.le_of_ble_eq_true rfl⟩ (h) rfl ?_
  show Ev X k_L_size (17, [some (vr 0), some (vi a1), some (vi a2), some (vr 145), none], [vj]) (MS I J (cc + 1) (ss + 6)) _
  refine ev_n (fr' := (20, [some (vr 0), some (vi a1), some (vi a2), some (vr 145), some (vj)], [vi 2])) (S' := MS I J (cc + 1) (ss + 6)) 2 rfl ?_
  refine ev_r rfl rfl rfl ?_
  exact ⟨rfl, rfl⟩
theorem wl_setExtra (X : AX) (I J : Nat → Nat → Int) (cc ss : Nat) (a1 a2 : Int) {P : Int → F2 → F2 → Prop} (h : Ev X k_X8_setExtra (0, [some (vr 0), some (vi a1), some (vi a2), none], []) (MS I J cc ss) (PZ cc ss P)) : Ev X k_L_setExtra (0, [some (vr 0), some (vi a1), some (vi a2), some (vr 145), none], []) (MS I J cc ss) (PWr cc ss P) := by
  refine ev_n (fr' := (5, [some (vr 0), some (vi a1), some (vi a2), some (vr 145), none], [vi a2, vi a1, vr 0, vi 0, vr 145])) (S' := MS I J cc ss) 5 rfl ?_
  refine ev_cz rfl rfl rfl ⟨Nat.le_of_ble_eq_true rfl, Nat.le_of_ble_eq_true rfl⟩ (h) (fun z1 I1 J1 q1 => ?_)
  obtain q1 := q1
  show Ev X k_L_setExtra (8, [some (vr 0), some (vi a1), some (vi a2), some (vr 145), none], [vi z1, vi 0, vr 145]) (MS I1 J1 cc ss) _
  have hp := q1
  refine ev_n (fr' := (9, [some (vr 0), some (vi a1), some (vi a2), some (vr 145), none], [vl z1, vi 0, vr 145])) (S' := MS I1 J1 cc ss) 1 rfl ?_
  refine ev_lasN (j := 0) rfl rfl (by omega) (by omega) ?_
  show Ev X k_L_setExtra (10, [some (vr 0), some (vi a1), some (vi a2), some (vr 145), none], []) (MS I1 (up2 J1 145 0 z1) cc ss) _
  refine ev_n (fr' := (22, [some (vr 0), some (vi a1), some (vi a2), some (vr 145), none], [vi 0])) (S' := MS I1 (up2 J1 145 0 z1) cc ss) 2 rfl ?_
  refine ev_r rfl rfl rfl ?_
  exact ⟨_, _, rfl, rfl, _, _, rfl, hp⟩
theorem wx_setExtra_2 (X : AX) (I J : Nat → Nat → Int) (cc ss : Nat) (a1 a2 : Int) (h : Ev X k_X8_setExtra (0, [some (vr 0), some (vi a1), some (vi a2), none], []) (MS I J cc ss) (fun o T => o = .inr 2 ∧ T = MS I J (cc + 1) (ss + 6))) : Ev X k_L_setExtra (0, [some (vr 0), some (vi a1), some (vi a2), some (vr 145), none], []) (MS I J cc ss) (fun o T => o = .inl (some (vi 1)) ∧ T = MS I J (cc + 1) (ss + 6)) := by
  refine ev_n (fr' := (5, [some (vr 0), some (vi a1), some (vi a2), some (vr 145), none], [vi a2, vi a1, vr 0, vi 0, vr 145])) (S' := MS I J cc ss) 5 rfl ?_
  refine ev_ch rfl rfl rfl ⟨Nat.le_of_ble_eq_true rfl, Nat.le_of_ble_eq_true rfl⟩ (h) rfl ?_
  show Ev X k_L_setExtra (13, [some (vr 0), some (vi a1), some (vi a2), some (vr 145), none], [vj]) (MS I J (cc + 1) (ss + 6)) _
  refine ev_n (fr' := (16, [some (vr 0), some (vi a1), some (vi a2), some (vr 145), some (vj)], [vi 1])) (S' := MS I J (cc + 1) (ss + 6)) 2 rfl ?_
  refine ev_r rfl rfl rfl ?_
  exact ⟨rfl, rfl⟩
theorem wx_setExtra_1 (X : AX) (I J : Nat → Nat → Int) (cc ss : Nat) (a1 a2 : Int) (h : Ev X k_X8_setExtra (0, [some (vr 0), some (vi a1), some (vi a2), none], []) (MS I J cc ss) (fun o T => o = .inr 1 ∧ T = MS I J (cc + 1) (ss + 6))) : Ev X k_L_setExtra (0, [some (vr 0), some (vi a1), some (vi a2), some (vr 145), none], []) (MS I J cc ss) (fun o T => o = .inl (some (vi 2)) ∧ T = MS I J (cc + 1) (ss + 6)) := by
  refine ev_n (fr' := (5, [some (vr 0), some (vi a1), some (vi a2), some (vr 145), none], [vi a2, vi a1, vr 0, vi 0, vr 145])) (S' := MS I J cc ss) 5 rfl ?_
  refine ev_ch rfl rfl rfl ⟨Nat.le_of_ble_eq_true rfl, Nat.le_of_ble_eq_true rfl⟩ (h) rfl ?_
  show Ev X k_L_setExtra (17, [some (vr 0), some (vi a1), some (vi a2), some (vr 145), none], [vj]) (MS I J (cc + 1) (ss + 6)) _
  refine ev_n (fr' := (20, [some (vr 0), some (vi a1), some (vi a2), some (vr 145), some (vj)], [vi 2])) (S' := MS I J (cc + 1) (ss + 6)) 2 rfl ?_
  refine ev_r rfl rfl rfl ?_
  exact ⟨rfl, rfl⟩
theorem wl_stroke (X : AX) (I J : Nat → Nat → Int) (cc ss : Nat) (a1 a2 : Int) {P : Int → F2 → F2 → Prop} (h : Ev X k_X8_stroke (0, [some (vr 0), some (vi a1), some (vi a2)], []) (MS I J cc ss) (PZ cc ss P)) : Ev X k_L_stroke (0, [some (vr 0), some (vi a1), some (vi a2), some (vr 145), none], []) (MS I J cc ss) (PWr cc ss P) := by
  refine ev_n (fr' := (5, [some (vr 0), some (vi a1), some (vi a2), some (vr 145), none], [vi a2, vi a1, vr 0, vi 0, vr 145])) (S' := MS I J cc ss) 5 rfl ?_
  refine ev_cz rfl rfl rfl ⟨Nat.le_of_ble_eq_true rfl, Nat.le_of_ble_eq_true rfl⟩ (h) (fun z1 I1 J1 q1 => ?_)
  obtain q1 := q1
  show Ev X k_L_stroke (8, [some (vr 0), some (vi a1), some (vi a2), some (vr 145), none], [vi z1, vi 0, vr 145]) (MS I1 J1 cc ss) _
  have hp := q1
  refine ev_n (fr' := (9, [some (vr 0), some (vi a1), some (vi a2), some (vr 145), none], [vl z1, vi 0, vr 145])) (S' := MS I1 J1 cc ss) 1 rfl ?_
  refine ev_lasN (j := 0) rfl rfl (by omega) (by omega) ?_
  show Ev X k_L_stroke (10, [some (vr 0), some (vi a1), some (vi a2), some (vr 145), none], []) (MS I1 (up2 J1 145 0 z1) cc ss) _
  refine ev_n (fr' := (22, [some (vr 0), some (vi a1), some (vi a2), some (vr 145), none], [vi 0])) (S' := MS I1 (up2 J1 145 0 z1) cc ss) 2 rfl ?_
  refine ev_r rfl rfl rfl ?_
  exact ⟨_, _, rfl, rfl, _, _, rfl, hp⟩
theorem wx_stroke_2 (X : AX) (I J : Nat → Nat → Int) (cc ss : Nat) (a1 a2 : Int) (h : Ev X k_X8_stroke (0, [some (vr 0), some (vi a1), some (vi a2)], []) (MS I J cc ss) (fun o T => o = .inr 2 ∧ T = MS I J (cc + 1) (ss + 6))) : Ev X k_L_stroke (0, [some (vr 0), some (vi a1), some (vi a2), some (vr 145), none], []) (MS I J cc ss) (fun o T => o = .inl (some (vi 1)) ∧ T = MS I J (cc + 1) (ss + 6)) := by
  refine ev_n (fr' := (5, [some (vr 0), some (vi a1), some (vi a2), some (vr 145), none], [vi a2, vi a1, vr 0, vi 0, vr 145])) (S' := MS I J cc ss) 5 rfl ?_
  refine ev_ch rfl rfl rfl ⟨Nat.le_of_ble_eq_true rfl, Nat.le_of_ble_eq_true rfl⟩ (h) rfl ?_
  show Ev X k_L_stroke (13, [some (vr 0), some (vi a1), some (vi a2), some (vr 145), none], [vj]) (MS I J (cc + 1) (ss + 6)) _
  refine ev_n (fr' := (16, [some (vr 0), some (vi a1), some (vi a2), some (vr 145), some (vj)], [vi 1])) (S' := MS I J (cc + 1) (ss + 6)) 2 rfl ?_
  refine ev_r rfl rfl rfl ?_
  exact ⟨rfl, rfl⟩
theorem wx_stroke_1 (X : AX) (I J : Nat → Nat → Int) (cc ss : Nat) (a1 a2 : Int) (h : Ev X k_X8_stroke (0, [some (vr 0), some (vi a1), some (vi a2)], []) (MS I J cc ss) (fun o T => o = .inr 1 ∧ T = MS I J (cc + 1) (ss + 6))) : Ev X k_L_stroke (0, [some (vr 0), some (vi a1), some (vi a2), some (vr 145), none], []) (MS I J cc ss) (fun o T => o = .inl (some (vi 2)) ∧ T = MS I J (cc + 1) (ss + 6)) := by
  refine ev_n (fr' := (5, [some (vr 0), some (vi a1), some (vi a2), some (vr 145), none], [vi a2, vi a1, vr 0, vi 0, vr 145])) (S' := MS I J cc ss) 5 rfl ?_
  refine ev_ch rfl rfl rfl ⟨Nat.le_of_ble_eq_true rfl, Nat.le_of_ble_eq_true rfl⟩ (h) rfl ?_
  show Ev X k_L_stroke (17, [some (vr 0), some (vi a1), some (vi a2), some (vr 145), none], [vj]) (MS I J (cc + 1) (ss + 6)) _
  refine ev_n (fr' := (20, [some (vr 0), some (vi a1), some (vi a2), some (vr 145), some (vj)], [vi 2])) (S' := MS I J (cc + 1) (ss + 6)) 2 rfl ?_
  refine ev_r rfl rfl rfl ?_
  exact ⟨rfl, rfl⟩
theorem wl_part (X : AX) (I J : Nat → Nat → Int) (cc ss : Nat) (a1 a2 : Int) {P : Int → F2 → F2 → Prop} (h : Ev X k_X8_part (0, [some (vr 0), some (vi a1), some (vi a2)], []) (MS I J cc ss) (PZ cc ss P)) : Ev X k_L_part (0, [some (vr 0), some (vi a1), some (vi a2), some (vr 145), none], []) (MS I J cc ss) (PWr cc ss P) := by
  refine ev_n (fr' := (5, [some (vr 0), some (vi a1), some (vi a2), some (vr 145), none], [vi a2, vi a1, vr 0, vi 0, vr 145])) (S' := MS I J cc ss) 5 rfl ?_
  refine ev_cz rfl rfl rfl ⟨Nat.le_of_ble_eq_true rfl, Nat.le_of_ble_eq_true rfl⟩ (h) (fun z1 I1 J1 q1 => ?_)
  obtain q1 := q1
  show Ev X k_L_part (8, [some (vr 0), some (vi a1), some (vi a2), some (vr 145), none], [vi z1, vi 0, vr 145]) (MS I1 J1 cc ss) _
  have hp := q1
  refine ev_n (fr' := (9, [some (vr 0), some (vi a1), some (vi a2), some (vr 145), none], [vl z1, vi 0, vr 145])) (S' := MS I1 J1 cc ss) 1 rfl ?_
  refine ev_lasN (j := 0) rfl rfl (by omega) (by omega) ?_
  show Ev X k_L_part (10, [some (vr 0), some (vi a1), some (vi a2), some (vr 145), none], []) (MS I1 (up2 J1 145 0 z1) cc ss) _
  refine ev_n (fr' := (22, [some (vr 0), some (vi a1), some (vi a2), some (vr 145), none], [vi 0])) (S' := MS I1 (up2 J1 145 0 z1) cc ss) 2 rfl ?_
  refine ev_r rfl rfl rfl ?_
  exact ⟨_, _, rfl, rfl, _, _, rfl, hp⟩
theorem wx_part_2 (X : AX) (I J : Nat → Nat → Int) (cc ss : Nat) (a1 a2 : Int) (h : Ev X k_X8_part (0, [some (vr 0), some (vi a1), some (vi a2)], []) (MS I J cc ss) (fun o T => o = .inr 2 ∧ T = MS I J (cc + 1) (ss + 6))) : Ev X k_L_part (0, [some (vr 0), some (vi a1), some (vi a2), some (vr 145), none], []) (MS I J cc ss) (fun o T => o = .inl (some (vi 1)) ∧ T = MS I J (cc + 1) (ss + 6)) := by
  refine ev_n (fr' := (5, [some (vr 0), some (vi a1), some (vi a2), some (vr 145), none], [vi a2, vi a1, vr 0, vi 0, vr 145])) (S' := MS I J cc ss) 5 rfl ?_
  refine ev_ch rfl rfl rfl ⟨Nat.le_of_ble_eq_true rfl, Nat.le_of_ble_eq_true rfl⟩ (h) rfl ?_
  show Ev X k_L_part (13, [some (vr 0), some (vi a1), some (vi a2), some (vr 145), none], [vj]) (MS I J (cc + 1) (ss + 6)) _
  refine ev_n (fr' := (16, [some (vr 0), some (vi a1), some (vi a2), some (vr 145), some (vj)], [vi 1])) (S' := MS I J (cc + 1) (ss + 6)) 2 rfl ?_
  refine ev_r rfl rfl rfl ?_
  exact ⟨rfl, rfl⟩
theorem wx_part_1 (X : AX) (I J : Nat → Nat → Int) (cc ss : Nat) (a1 a2 : Int) (h : Ev X k_X8_part (0, [some (vr 0), some (vi a1), some (vi a2)], []) (MS I J cc ss) (fun o T => o = .inr 1 ∧ T = MS I J (cc + 1) (ss + 6))) : Ev X k_L_part (0, [some (vr 0), some (vi a1), some (vi a2), some (vr 145), none], []) (MS I J cc ss) (fun o T => o = .inl (some (vi 2)) ∧ T = MS I J (cc + 1) (ss + 6)) := by
  refine ev_n (fr' := (5, [some (vr 0), some (vi a1), some (vi a2), some (vr 145), none], [vi a2, vi a1, vr 0, vi 0, vr 145])) (S' := MS I J cc ss) 5 rfl ?_
  refine ev_ch rfl rfl rfl ⟨Nat.le_of_ble_eq_true rfl, Nat.le_of_ble_eq_true rfl⟩ (h) rfl ?_
  show Ev X k_L_part (17, [some (vr 0), some (vi a1), some (vi a2), some (vr 145), none], [vj]) (MS I J (cc + 1) (ss + 6)) _
  refine ev_n (fr' := (20, [some (vr 0), some (vi a1), some (vi a2), some (vr 145), some (vj)], [vi 2])) (S' := MS I J (cc + 1) (ss + 6)) 2 rfl ?_
  refine ev_r rfl rfl rfl ?_
  exact ⟨rfl, rfl⟩
theorem wl_shape (X : AX) (I J : Nat → Nat → Int) (cc ss : Nat) (a1 a2 a3 : Int) {P : Int → F2 → F2 → Prop} (h : Ev X k_X8_shape (0, [some (vr 0), some (vi a1), some (vi a2), some (vi a3)], []) (MS I J cc ss) (PZ cc ss P)) : Ev X k_L_shape (0, [some (vr 0), some (vi a1), some (vi a2), some (vi a3), some (vr 145), none], []) (MS I J cc ss) (PWr cc ss P) := by
  refine ev_n (fr' := (7, [some (vr 0), some (vi a1), some (vi a2), some (vi a3), some (vr 145), none], [vi a3, vi a2, vi a1, vr 0, vi 0, vr 145])) (S' := MS I J cc ss) 6 rfl ?_
  refine ev_cz rfl rfl rfl ⟨Nat.le_of_ble_eq_true rfl, Nat.le_of_ble_eq_true rfl⟩ (h) (fun z1 I1 J1 q1 => ?_)
  obtain q1 := q1
  show Ev X k_L_shape (10, [some (vr 0), some (vi a1), some (vi a2), some (vi a3), some (vr 145), none], [vi z1, vi 0, vr 145]) (MS I1 J1 cc ss) _
  have hp := q1
  refine ev_n (fr' := (11, [some (vr 0), some (vi a1), some (vi a2), some (vi a3), some (vr 145), none], [vl z1, vi 0, vr 145])) (S' := MS I1 J1 cc ss) 1 rfl ?_
  refine ev_lasN (j := 0) rfl rfl (by omega) (by omega) ?_
  show Ev X k_L_shape (12, [some (vr 0), some (vi a1), some (vi a2), some (vi a3), some (vr 145), none], []) (MS I1 (up2 J1 145 0 z1) cc ss) _
  refine ev_n (fr' := (24, [some (vr 0), some (vi a1), some (vi a2), some (vi a3), some (vr 145), none], [vi 0])) (S' := MS I1 (up2 J1 145 0 z1) cc ss) 2 rfl ?_
  refine ev_r rfl rfl rfl ?_
  exact ⟨_, _, rfl, rfl, _, _, rfl, hp⟩
theorem wx_shape_2 (X : AX) (I J : Nat → Nat → Int) (cc ss : Nat) (a1 a2 a3 : Int) (h : Ev X k_X8_shape (0, [some (vr 0), some (vi a1), some (vi a2), some (vi a3)], []) (MS I J cc ss) (fun o T => o = .inr 2 ∧ T = MS I J (cc + 1) (ss + 6))) : Ev X k_L_shape (0, [some (vr 0), some (vi a1), some (vi a2), some (vi a3), some (vr 145), none], []) (MS I J cc ss) (fun o T => o = .inl (some (vi 1)) ∧ T = MS I J (cc + 1) (ss + 6)) := by
  refine ev_n (fr' := (7, [some (vr 0), some (vi a1), some (vi a2), some (vi a3), some (vr 145), none], [vi a3, vi a2, vi a1, vr 0, vi 0, vr 145])) (S' := MS I J cc ss) 6 rfl ?_
  refine ev_ch rfl rfl rfl ⟨Nat.le_of_ble_eq_true rfl, Nat.le_of_ble_eq_true rfl⟩ (h) rfl ?_
  show Ev X k_L_shape (15, [some (vr 0), some (vi a1), some (vi a2), some (vi a3), some (vr 145), none], [vj]) (MS I J (cc + 1) (ss + 6)) _
  refine ev_n (fr' := (18, [some (vr 0), some (vi a1), some (vi a2), some (vi a3), some (vr 145), some (vj)], [vi 1])) (S' := MS I J (cc + 1) (ss + 6)) 2 rfl ?_
  refine ev_r rfl rfl rfl ?_
  exact ⟨rfl, rfl⟩
theorem wx_shape_1 (X : AX) (I J : Nat → Nat → Int) (cc ss : Nat) (a1 a2 a3 : Int) (h : Ev X k_X8_shape (0, [some (vr 0), some (vi a1), some (vi a2), some (vi a3)], []) (MS I J cc ss) (fun o T => o = .inr 1 ∧ T = MS I J (cc + 1) (ss + 6))) : Ev X k_L_shape (0, [some (vr 0), some (vi a1), some (vi a2), some (vi a3), some (vr 145), none], []) (MS I J cc ss) (fun o T => o = .inl (some (vi 2)) ∧ T = MS I J (cc + 1) (ss + 6)) := by
  refine ev_n (fr' := (7, [some (vr 0), some (vi a1), some (vi a2), some (vi a3), some (vr 145), none], [vi a3, vi a2, vi a1, vr 0, vi 0, vr 145])) (S' := MS I J cc ss) 6 rfl ?_
  refine ev_ch rfl rfl rfl ⟨Nat.le_of_ble_eq_true rfl, Nat.le_of_ble_eq_true rfl⟩ (h) rfl ?_
  show Ev X k_L_shape (19, [some (vr 0), some (vi a1), some (vi a2), some (vi a3), some (vr 145), none], [vj]) (MS I J (cc + 1) (ss + 6)) _
  refine ev_n (fr' := (22, [some (vr 0), some (vi a1), some (vi a2), some (vi a3), some (vr 145), some (vj)], [vi 2])) (S' := MS I J (cc + 1) (ss + 6)) 2 rfl ?_
  refine ev_r rfl rfl rfl ?_
  exact ⟨rfl, rfl⟩
theorem wl_setShape (X : AX) (I J : Nat → Nat → Int) (cc ss : Nat) (a1 a2 a3 a4 : Int) {P : Int → F2 → F2 → Prop} (h : Ev X k_X8_setShape (0, [some (vr 0), some (vi a1), some (vi a2), some (vi a3), some (vi a4), none], []) (MS I J cc ss) (PZ cc ss P)) : Ev X k_L_setShape (0, [some (vr 0), some (vi a1), some (vi a2), some (vi a3), some (vi a4), some (vr 145), none], []) (MS I J cc ss) (PWr cc ss P) := by
  refine ev_n (fr' := (9, [some (vr 0), some (vi a1), some (vi a2), some (vi a3), some (vi a4), some (vr 145), none], [vi a4, vi a3, vi a2, vi a1, vr 0, vi 0, vr 145])) (S' := MS I J cc ss) 7 rfl ?_
  refine ev_cz rfl rfl rfl ⟨Nat.le_of_ble_eq_true rfl, Nat.le_of_ble_eq_true rfl⟩ (h) (fun z1 I1 J1 q1 => ?_)
  obtain q1 := q1
  show Ev X k_L_setShape (12, [some (vr 0), some (vi a1), some (vi a2), some (vi a3), some (vi a4), some (vr 145), none], [vi z1, vi 0, vr 145]) (MS I1 J1 cc ss) _
  have hp := q1
  refine ev_n (fr' := (13, [some (vr 0), some (vi a1), some (vi a2), some (vi a3), some (vi a4), some (vr 145), none], [vl z1, vi 0, vr 145])) (S' := MS I1 J1 cc ss) 1 rfl ?_
  refine ev_lasN (j := 0) rfl rfl (by omega) (by omega) ?_
  show Ev X k_L_setShape (14, [some (vr 0), some (vi a1), some (vi a2), some (vi a3), some (vi a4), some (vr 145), none], []) (MS I1 (up2 J1 145 0 z1) cc ss) _
  refine ev_n (fr' := (26, [some (vr 0), some (vi a1), some (vi a2), some (vi a3), some (vi a4), some (vr 145), none], [vi 0])) (S' := MS I1 (up2 J1 145 0 z1) cc ss) 2 rfl ?_
  refine ev_r rfl rfl rfl ?_
  exact ⟨_, _, rfl, rfl, _, _, rfl, hp⟩
theorem wx_setShape_2 (X : AX) (I J : Nat → Nat → Int) (cc ss : Nat) (a1 a2 a3 a4 : Int) (h : Ev X k_X8_setShape (0, [some (vr 0), some (vi a1), some (vi a2), some (vi a3), some (vi a4), none], []) (MS I J cc ss) (fun o T => o = .inr 2 ∧ T = MS I J (cc + 1) (ss + 6))) : Ev X k_L_setShape (0, [some (vr 0), some (vi a1), some (vi a2), some (vi a3), some (vi a4), some (vr 145), none], []) (MS I J cc ss) (fun o T => o = .inl (some (vi 1)) ∧ T = MS I J (cc + 1) (ss + 6)) := by
  refine ev_n (fr' := (9, [some (vr 0), some (vi a1), some (vi a2), some (vi a3), some (vi a4), some (vr 145), none], [vi a4, vi a3, vi a2, vi a1, vr 0, vi 0, vr 145])) (S' := MS I J cc ss) 7 rfl ?_
  refine ev_ch rfl rfl rfl ⟨Nat.le_of_ble_eq_true rfl, Nat.le_of_ble_eq_true rfl⟩ (h) rfl ?_
  show Ev X k_L_setShape (17, [some (vr 0), some (vi a1), some (vi a2), some (vi a3), some (vi a4), some (vr 145), none], [vj]) (MS I J (cc + 1) (ss + 6)) _
  refine ev_n (fr' := (20, [some (vr 0), some (vi a1), some (vi a2), some (vi a3), some (vi a4), some (vr 145), some (vj)], [vi 1])) (S' := MS I J (cc + 1) (ss + 6)) 2 rfl ?_
  refine ev_r rfl rfl rfl ?_
  exact ⟨rfl, rfl⟩
theorem wx_setShape_1 (X : AX) (I J : Nat → Nat → Int) (cc ss : Nat) (a1 a2 a3 a4 : Int) (h : Ev X k_X8_setShape (0, [some (vr 0), some (vi a1), some (vi a2), some (vi a3), some (vi a4), none], []) (MS I J cc ss) (fun o T => o = .inr 1 ∧ T = MS I J (cc + 1) (ss + 6))) : Ev X k_L_setShape (0, [some (vr 0), some (vi a1), some (vi a2), some (vi a3), some (vi a4), some (vr 145), none], []) (MS I J cc ss) (fun o T => o = .inl (some (vi 2)) ∧ T = MS I J (cc + 1) (ss + 6)) := by
  refine ev_n (fr' := (9, [some (vr 0), some (vi a1), some (vi a2), some (vi a3), some (vi a4), some (vr 145), none], [vi a4, vi a3, vi a2, vi a1, vr 0, vi 0, vr 145])) (S' := MS I J cc ss) 7 rfl ?_
  refine ev_ch rfl rfl rfl ⟨Nat.le_of_ble_eq_true rfl, Nat.le_of_ble_eq_true rfl⟩ (h) rfl ?_
  show Ev X k_L_setShape (21, [some (vr 0), some (vi a1), some (vi a2), some (vi a3), some (vi a4), some (vr 145), none], [vj]) (MS I J (cc + 1) (ss + 6)) _
  refine ev_n (fr' := (24, [some (vr 0), some (vi a1), some (vi a2), some (vi a3), some (vi a4), some (vr 145), some (vj)], [vi 2])) (S' := MS I J (cc + 1) (ss + 6)) 2 rfl ?_
  refine ev_r rfl rfl rfl ?_
  exact ⟨rfl, rfl⟩
theorem wl_moveShape (X : AX) (I J : Nat → Nat → Int) (cc ss : Nat) (a1 a2 a3 a4 : Int) {P : Int → F2 → F2 → Prop} (h : Ev X k_X8_moveShape (0, [some (vr 0), some (vi a1), some (vi a2), some (vi a3), some (vi a4)], []) (MS I J cc ss) (PZ cc ss P)) : Ev X k_L_moveShape (0, [some (vr 0), some (vi a1), some (vi a2), some (vi a3), some (vi a4), some (vr 145), none], []) (MS I J cc ss) (PWr cc ss P) := by
  refine ev_n (fr' := (9, [some (vr 0), some (vi a1), some (vi a2), some (vi a3), some (vi a4), some (vr 145), none], [vi a4, vi a3, vi a2, vi a1, vr 0, vi 0, vr 145])) (S' := MS I J cc ss) 7 rfl ?_
  refine ev_cz rfl rfl rfl ⟨Nat.le_of_ble_eq_true rfl, Nat.le_of_ble_eq_true rfl⟩ (h) (fun z1 I1 J1 q1 => ?_)
  obtain q1 := q1
  show Ev X k_L_moveShape (12, [some (vr 0), some (vi a1), some (vi a2), some (vi a3), some (vi a4), some (vr 145), none], [vi z1, vi 0, vr 145]) (MS I1 J1 cc ss) _
  have hp := q1
  refine ev_n (fr' := (13, [some (vr 0), some (vi a1), some (vi a2), some (vi a3), some (vi a4), some (vr 145), none], [vl z1, vi 0, vr 145])) (S' := MS I1 J1 cc ss) 1 rfl ?_
  refine ev_lasN (j := 0) rfl rfl (by omega) (by omega) ?_
  show Ev X k_L_moveShape (14, [some (vr 0), some (vi a1), some (vi a2), some (vi a3), some (vi a4), some (vr 145), none], []) (MS I1 (up2 J1 145 0 z1) cc ss) _
  refine ev_n (fr' := (26, [some (vr 0), some (vi a1), some (vi a2), some (vi a3), some (vi a4), some (vr 145), none], [vi 0])) (S' := MS I1 (up2 J1 145 0 z1) cc ss) 2 rfl ?_
  refine ev_r rfl rfl rfl ?_
  exact ⟨_, _, rfl, rfl, _, _, rfl, hp⟩
theorem wx_moveShape_2 (X : AX) (I J : Nat → Nat → Int) (cc ss : Nat) (a1 a2 a3 a4 : Int) (h : Ev X k_X8_moveShape (0, [some (vr 0), some (vi a1), some (vi a2), some (vi a3), some (vi a4)], []) (MS I J cc ss) (fun o T => o = .inr 2 ∧ T = MS I J (cc + 1) (ss + 6))) : Ev X k_L_moveShape (0, [some (vr 0), some (vi a1), some (vi a2), some (vi a3), some (vi a4), some (vr 145), none], []) (MS I J cc ss) (fun o T => o = .inl (some (vi 1)) ∧ T = MS I J (cc + 1) (ss + 6)) := by
  refine ev_n (fr' := (9, [some (vr 0), some (vi a1), some (vi a2), some (vi a3), some (vi a4), some (vr 145), none], [vi a4, vi a3, vi a2, vi a1, vr 0, vi 0, vr 145])) (S' := MS I J cc ss) 7 rfl ?_
  refine ev_ch rfl rfl rfl ⟨Nat.le_of_ble_eq_true rfl, Nat.le_of_ble_eq_true rfl⟩ (h) rfl ?_
  show Ev X k_L_moveShape (17, [some (vr 0), some (vi a1), some (vi a2), some (vi a3), some (vi a4), some (vr 145), none], [vj]) (MS I J (cc + 1) (ss + 6)) _
  refine ev_n (fr' := (20, [some (vr 0), some (vi a1), some (vi a2), some (vi a3), some (vi a4), some (vr 145), some (vj)], [vi 1])) (S' := MS I J (cc + 1) (ss + 6)) 2 rfl ?_
  refine ev_r rfl rfl rfl ?_
  exact ⟨rfl, rfl⟩
theorem wx_moveShape_1 (X : AX) (I J : Nat → Nat → Int) (cc ss : Nat) (a1 a2 a3 a4 : Int) (h : Ev X k_X8_moveShape (0, [some (vr 0), some (vi a1), some (vi a2), some (vi a3), some (vi a4)], []) (MS I J cc ss) (fun o T => o = .inr 1 ∧ T = MS I J (cc + 1) (ss + 6))) : Ev X k_L_moveShape (0, [some (vr 0), some (vi a1), some (vi a2), some (vi a3), some (vi a4), some (vr 145), none], []) (MS I J cc ss) (fun o T => o = .inl (some (vi 2)) ∧ T = MS I J (cc + 1) (ss + 6)) := by
  refine ev_n (fr' := (9, [some (vr 0), some (vi a1), some (vi a2), some (vi a3), some (vi a4), some (vr 145), none], [vi a4, vi a3, vi a2, vi a1, vr 0, vi 0, vr 145])) (S' := MS I J cc ss) 7 rfl ?_
  refine ev_ch rfl rfl rfl ⟨Nat.le_of_ble_eq_true rfl, Nat.le_of_ble_eq_true rfl⟩ (h) rfl ?_
  show Ev X k_L_moveShape (21, [some (vr 0), some (vi a1), some (vi a2), some (vi a3), some (vi a4), some (vr 145), none], [vj]) (MS I J (cc + 1) (ss + 6)) _
  refine ev_n (fr' := (24, [some (vr 0), some (vi a1), some (vi a2), some (vi a3), some (vi a4), some (vr 145), some (vj)], [vi 2])) (S' := MS I J (cc + 1) (ss + 6)) 2 rfl ?_
  refine ev_r rfl rfl rfl ?_
  exact ⟨rfl, rfl⟩
theorem wl_copyShape (X : AX) (I J : Nat → Nat → Int) (cc ss : Nat) (a1 a2 a3 a4 : Int) {P : Int → F2 → F2 → Prop} (h : Ev X k_X8_copyShape (0, [some (vr 0), some (vi a1), some (vi a2), some (vi a3), some (vi a4), none], []) (MS I J cc ss) (PZ cc ss P)) : Ev X k_L_copyShape (0, [some (vr 0), some (vi a1), some (vi a2), some (vi a3), some (vi a4), some (vr 145), none], []) (MS I J cc ss) (PWr cc ss P) := by
  refine ev_n (fr' := (9, [some (vr 0), some (vi a1), some (vi a2), some (vi a3), some (vi a4), some (vr 145), none], [vi a4, vi a3, vi a2, vi a1, vr 0, vi 0, vr 145])) (S' := MS I J cc ss) 7 rfl ?_
  refine ev_cz rfl rfl rfl ⟨Nat.le_of_ble_eq_true rfl, Nat.le_of_ble_eq_true rfl⟩ (h) (fun z1 I1 J1 q1 => ?_)
  obtain q1 := q1
  show Ev X k_L_copyShape (12, [some (vr 0), some (vi a1), some (vi a2), some (vi a3), some (vi a4), some (vr 145), none], [vi z1, vi 0, vr 145]) (MS I1 J1 cc ss) _
  have hp := q1
  refine ev_n (fr' := (13, [some (vr 0), some (vi a1), some (vi a2), some (vi a3), some (vi a4), some (vr 145), none], [vl z1, vi 0, vr 145])) (S' := MS I1 J1 cc ss) 1 rfl ?_
  refine ev_lasN (j := 0) rfl rfl (by omega) (by omega) ?_
  show Ev X k_L_copyShape (14, [some (vr 0), some (vi a1), some (vi a2), some (vi a3), some (vi a4), some (vr 145), none], []) (MS I1 (up2 J1 145 0 z1) cc ss) _
  refine ev_n (fr' := (30, [some (vr 0), some (vi a1), some (vi a2), some (vi a3), some (vi a4), some (vr 145), none], [vi 0])) (S' := MS I1 (up2 J1 145 0 z1) cc ss) 2 rfl ?_
  refine ev_r rfl rfl rfl ?_
  exact ⟨_, _, rfl, rfl, _, _, rfl, hp⟩
theorem wx_copyShape_2 (X : AX) (I J : Nat → Nat → Int) (cc ss : Nat) (a1 a2 a3 a4 : Int) (h : Ev X k_X8_copyShape (0, [some (vr 0), some (vi a1), some (vi a2), some (vi a3), some (vi a4), none], []) (MS I J cc ss) (fun o T => o = .inr 2 ∧ T = MS I J (cc + 1) (ss + 6))) : Ev X k_L_copyShape (0, [some (vr 0), some (vi a1), some (vi a2), some (vi a3), some (vi a4), some (vr 145), none], []) (MS I J cc ss) (fun o T => o = .inl (some (vi 1)) ∧ T = MS I J (cc + 1) (ss + 6)) := by
  refine ev_n (fr' := (9, [some (vr 0), some (vi a1), some (vi a2), some (vi a3), some (vi a4), some (vr 145), none], [vi a4, vi a3, vi a2, vi a1, vr 0, vi 0, vr 145])) (S' := MS I J cc ss) 7 rfl ?_
  refine ev_ch rfl rfl rfl ⟨Nat.le_of_ble_eq_true rfl, Nat.le_of_ble_eq_true rfl⟩ (h) rfl ?_
  show Ev X k_L_copyShape (17, [some (vr 0), some (vi a1), some (vi a2), some (vi a3), some (vi a4), some (vr 145), none], [vj]) (MS I J (cc + 1) (ss + 6)) _
  refine ev_n (fr' := (20, [some (vr 0), some (vi a1), some (vi a2), some (vi a3), some (vi a4), some (vr 145), some (vj)], [vi 1])) (S' := MS I J (cc + 1) (ss + 6)) 2 rfl ?_
  refine ev_r rfl rfl rfl ?_
  exact ⟨rfl, rfl⟩
theorem wx_copyShape_1 (X : AX) (I J : Nat → Nat → Int) (cc ss : Nat) (a1 a2 a3 a4 : Int) (h : Ev X k_X8_copyShape (0, [some (vr 0), some (vi a1), some (vi a2), some (vi a3), some (vi a4), none], []) (MS I J cc ss) (fun o T => o = .inr 1 ∧ T = MS I J (cc + 1) (ss + 6))) : Ev X k_L_copyShape (0, [some (vr 0), some (vi a1), some (vi a2), some (vi a3), some (vi a4), some (vr 145), none], []) (MS I J cc ss) (fun o T => o = .inl (some (vi 2)) ∧ T = MS I J (cc + 1) (ss + 6)) := by
  refine ev_n (fr' := (9, [some (vr 0), some (vi a1), some (vi a2), some (vi a3), some (vi a4), some (vr 145), none], [vi a4, vi a3, vi a2, vi a1, vr 0, vi 0, vr 145])) (S' := MS I J cc ss) 7 rfl ?_
  refine ev_ch rfl rfl rfl ⟨Nat.le_of_ble_eq_true rfl, Nat.le_of_ble_eq_true rfl⟩ (h) rfl ?_
  show Ev X k_L_copyShape (21, [some (vr 0), some (vi a1), some (vi a2), some (vi a3), some (vi a4), some (vr 145), none], [vj]) (MS I J (cc + 1) (ss + 6)) _
  refine ev_n (fr' := (24, [some (vr 0), some (vi a1), some (vi a2), some (vi a3), some (vi a4), some (vr 145), some (vj)], [vi 2])) (S' := MS I J (cc + 1) (ss + 6)) 2 rfl ?_
  refine ev_r rfl rfl rfl ?_
  exact ⟨rfl, rfl⟩
theorem wx_copyShape_0 (X : AX) (I J : Nat → Nat → Int) (cc ss : Nat) (a1 a2 a3 a4 : Int) (h : Ev X k_X8_copyShape (0, [some (vr 0), some (vi a1), some (vi a2), some (vi a3), some (vi a4), none], []) (MS I J cc ss) (fun o T => o = .inr 0 ∧ T = MS I J (cc + 1) (ss + 6))) : Ev X k_L_copyShape (0, [some (vr 0), some (vi a1), some (vi a2), some (vi a3), some (vi a4), some (vr 145), none], []) (MS I J cc ss) (fun o T => o = .inl (some (vi 3)) ∧ T = MS I J (cc + 1) (ss + 6)) := by
  refine ev_n (fr' := (9, [some (vr 0), some (vi a1), some (vi a2), some (vi a3), some (vi a4), some (vr 145), none], [vi a4, vi a3, vi a2, vi a1, vr 0, vi 0, vr 145])) (S' := MS I J cc ss) 7 rfl ?_
  refine ev_ch rfl rfl rfl ⟨Nat.le_of_ble_eq_true rfl, Nat.le_of_ble_eq_true rfl⟩ (h) rfl ?_
  show Ev X k_L_copyShape (25, [some (vr 0), some (vi a1), some (vi a2), some (vi a3), some (vi a4), some (vr 145), none], [vj]) (MS I J (cc + 1) (ss + 6)) _
  refine ev_n (fr' := (28, [some (vr 0), some (vi a1), some (vi a2), some (vi a3), some (vi a4), some (vr 145), some (vj)], [vi 3])) (S' := MS I J (cc + 1) (ss + 6)) 2 rfl ?_
  refine ev_r rfl rfl rfl ?_
  exact ⟨rfl, rfl⟩
theorem wl_removeShape (X : AX) (I J : Nat → Nat → Int) (cc ss : Nat) (a1 a2 : Int) {P : Int → F2 → F2 → Prop} (h : Ev X k_X8_removeShape (0, [some (vr 0), some (vi a1), some (vi a2)], []) (MS I J cc ss) (PZ cc ss P)) : Ev X k_L_removeShape (0, [some (vr 0), some (vi a1), some (vi a2), some (vr 145), none], []) (MS I J cc ss) (PWr cc ss P) := by
  refine ev_n (fr' := (5, [some (vr 0), some (vi a1), some (vi a2), some (vr 145), none], [vi a2, vi a1, vr 0, vi 0, vr 145])) (S' := MS I J cc ss) 5 rfl ?_
  refine ev_cz rfl rfl rfl ⟨Nat.le_of_ble_eq_true rfl, Nat.le_of_ble_eq_true rfl⟩ (h) (fun z1 I1 J1 q1 => ?_)
  obtain q1 := q1
  show Ev X k_L_removeShape (8, [some (vr 0), some (vi a1), some (vi a2), some (vr 145), none], [vi z1, vi 0, vr 145]) (MS I1 J1 cc ss) _
  have hp := q1
  refine ev_n (fr' := (9, [some (vr 0), some (vi a1), some (vi a2), some (vr 145), none], [vl z1, vi 0, vr 145])) (S' := MS I1 J1 cc ss) 1 rfl ?_
  refine ev_lasN (j := 0) rfl rfl (by omega) (by omega) ?_
  show Ev X k_L_removeShape (10, [some (vr 0), some (vi a1), some (vi a2), some (vr 145), none], []) (MS I1 (up2 J1 145 0 z1) cc ss) _
  refine ev_n (fr' := (22, [some (vr 0), some (vi a1), some (vi a2), some (vr 145), none], [vi 0])) (S' := MS I1 (up2 J1 145 0 z1) cc ss) 2 rfl ?_
  refine ev_r rfl rfl rfl ?_
  exact ⟨_, _, rfl, rfl, _, _, rfl, hp⟩
theorem wx_removeShape_2 (X : AX) (I J : Nat → Nat → Int) (cc ss : Nat) (a1 a2 : Int) (h : Ev X k_X8_removeShape (0, [some (vr 0), some (vi a1), some (vi a2)], []) (MS I J cc ss) (fun o T => o = .inr 2 ∧ T = MS I J (cc + 1) (ss + 6))) : Ev X k_L_removeShape (0, [some (vr 0), some (vi a1), some (vi a2), some (vr 145), none], []) (MS I J cc ss) (fun o T => o = .inl (some (vi 1)) ∧ T = MS I J (cc + 1) (ss + 6)) := by
  refine ev_n (fr' := (5, [some (vr 0), some (vi a1), some (vi a2), some (vr 145), none], [vi a2, vi a1, vr 0, vi 0, vr 145])) (S' := MS I J cc ss) 5 rfl ?_
  refine ev_ch rfl rfl rfl ⟨Nat.le_of_ble_eq_true rfl, Nat.le_of_ble_eq_true rfl⟩ (h) rfl ?_
  show Ev X k_L_removeShape (13, [some (vr 0), some (vi a1), some (vi a2), some (vr 145), none], [vj]) (MS I J (cc + 1) (ss + 6)) _
  refine ev_n (fr' := (16, [some (vr 0), some (vi a1), some (vi a2), some (vr 145), some (vj)], [vi 1])) (S' := MS I J (cc + 1) (ss + 6)) 2 rfl ?_
  refine ev_r rfl rfl rfl ?_
  exact ⟨rfl, rfl⟩
theorem wx_removeShape_0 (X : AX) (I J : Nat → Nat → Int) (cc ss : Nat) (a1 a2 : Int) (h : Ev X k_X8_removeShape (0, [some (vr 0), some (vi a1), some (vi a2)], []) (MS I J cc ss) (fun o T => o = .inr 0 ∧ T = MS I J (cc + 1) (ss + 6))) : Ev X k_L_removeShape (0, [some (vr 0), some (vi a1), some (vi a2), some (vr 145), none], []) (MS I J cc ss) (fun o T => o = .inl (some (vi 2)) ∧ T = MS I J (cc + 1) (ss + 6)) := by
  refine ev_n (fr' := (5, [some (vr 0), some (vi a1), some (vi a2), some (vr 145), none], [vi a2, vi a1, vr 0, vi 0, vr 145])) (S' := MS I J cc ss) 5 rfl ?_
  refine ev_ch rfl rfl rfl ⟨Nat.le_of_ble_eq_true rfl, Nat.le_of_ble_eq_true rfl⟩ (h) rfl ?_
  show Ev X k_L_removeShape (17, [some (vr 0), some (vi a1), some (vi a2), some (vr 145), none], [vj]) (MS I J (cc + 1) (ss + 6)) _
  refine ev_n (fr' := (20, [some (vr 0), some (vi a1), some (vi a2), some (vr 145), some (vj)], [vi 2])) (S' := MS I J (cc + 1) (ss + 6)) 2 rfl ?_
  refine ev_r rfl rfl rfl ?_
  exact ⟨rfl, rfl⟩
theorem wl_uses (X : AX) (I J : Nat → Nat → Int) (cc ss : Nat) (a1 : Int) {P : Int → F2 → F2 → Prop} (h : Ev X k_X8_uses (0, [some (vr 0), some (vi a1)], []) (MS I J cc ss) (PZ cc ss P)) : Ev X k_L_uses (0, [some (vr 0), some (vi a1), some (vr 145), none], []) (MS I J cc ss) (PWr cc ss P) := by
  refine ev_n (fr' := (4, [some (vr 0), some (vi a1), some (vr 145), none], [vi a1, vr 0, vi 0, vr 145])) (S' := MS I J cc ss) 4 rfl ?_
  refine ev_cz rfl rfl rfl ⟨Nat.le_of_ble_eq_true rfl, Nat.le_of_ble_eq_true rfl⟩ (h) (fun z1 I1 J1 q1 => ?_)
  obtain q1 := q1
  show Ev X k_L_uses (7, [some (vr 0), some (vi a1), some (vr 145), none], [vi z1, vi 0, vr 145]) (MS I1 J1 cc ss) _
  have hp := q1
  refine ev_n (fr' := (8, [some (vr 0), some (vi a1), some (vr 145), none], [vl z1, vi 0, vr 145])) (S' := MS I1 J1 cc ss) 1 rfl ?_
  refine ev_lasN (j := 0) rfl rfl (by omega) (by omega) ?_
  show Ev X k_L_uses (9, [some (vr 0), some (vi a1), some (vr 145), none], []) (MS I1 (up2 J1 145 0 z1) cc ss) _
  refine ev_n (fr' := (16, [some (vr 0), some (vi a1), some (vr 145), none], [vi 0])) (S' := MS I1 (up2 J1 145 0 z1) cc ss) 2 rfl ?_
  refine ev_r rfl rfl rfl ?_
  exact ⟨_, _, rfl, rfl, _, _, rfl, hp⟩
theorem wx_uses_2 (X : AX) (I J : Nat → Nat → Int) (cc ss : Nat) (a1 : Int) (h : Ev X k_X8_uses (0, [some (vr 0), some (vi a1)], []) (MS I J cc ss) (fun o T => o = .inr 2 ∧ T = MS I J (cc + 1) (ss + 6))) : Ev X k_L_uses (0, [some (vr 0), some (vi a1), some (vr 145), none], []) (MS I J cc ss) (fun o T => o = .inl (some (vi 1)) ∧ T = MS I J (cc + 1) (ss + 6)) := by
  refine ev_n (fr' := (4, [some (vr 0), some (vi a1), some (vr 145), none], [vi a1, vr 0, vi 0, vr 145])) (S' := MS I J cc ss) 4 rfl ?_
  refine ev_ch rfl rfl rfl ⟨Nat.le_of_ble_eq_true rfl, Nat.le_of_ble_eq_true rfl⟩ (h) rfl ?_
  show Ev X k_L_uses (12, [some (vr 0), some (vi a1), some (vr 145), none], [vj]) (MS I J (cc + 1) (ss + 6)) _
  refine ev_n (fr' := (14, [some (vr 0), some (vi a1), some (vr 145), some (vj)], [vi 1])) (S' := MS I J (cc + 1) (ss + 6)) 2 rfl ?_
  refine ev_r rfl rfl rfl ?_
  exact ⟨rfl, rfl⟩
theorem wl_use (X : AX) (I J : Nat → Nat → Int) (cc ss : Nat) (a1 a2 a3 : Int) {P : Int → F2 → F2 → Prop} (h : Ev X k_X8_use (0, [some (vr 0), some (vi a1), some (vi a2), some (vi a3)], []) (MS I J cc ss) (PZ cc ss P)) : Ev X k_L_use (0, [some (vr 0), some (vi a1), some (vi a2), some (vi a3), some (vr 145), none], []) (MS I J cc ss) (PWr cc ss P) := by
  refine ev_n (fr' := (7, [some (vr 0), some (vi a1), some (vi a2), some (vi a3), some (vr 145), none], [vi a3, vi a2, vi a1, vr 0, vi 0, vr 145])) (S' := MS I J cc ss) 6 rfl ?_
  refine ev_cz rfl rfl rfl ⟨Nat.le_of_ble_eq_true rfl, Nat.le_of_ble_eq_true rfl⟩ (h) (fun z1 I1 J1 q1 => ?_)
  obtain q1 := q1
  show Ev X k_L_use (10, [some (vr 0), some (vi a1), some (vi a2), some (vi a3), some (vr 145), none], [vi z1, vi 0, vr 145]) (MS I1 J1 cc ss) _
  have hp := q1
  refine ev_n (fr' := (11, [some (vr 0), some (vi a1), some (vi a2), some (vi a3), some (vr 145), none], [vl z1, vi 0, vr 145])) (S' := MS I1 J1 cc ss) 1 rfl ?_
  refine ev_lasN (j := 0) rfl rfl (by omega) (by omega) ?_
  show Ev X k_L_use (12, [some (vr 0), some (vi a1), some (vi a2), some (vi a3), some (vr 145), none], []) (MS I1 (up2 J1 145 0 z1) cc ss) _
  refine ev_n (fr' := (24, [some (vr 0), some (vi a1), some (vi a2), some (vi a3), some (vr 145), none], [vi 0])) (S' := MS I1 (up2 J1 145 0 z1) cc ss) 2 rfl ?_
  refine ev_r rfl rfl rfl ?_
  exact ⟨_, _, rfl, rfl, _, _, rfl, hp⟩
theorem wx_use_2 (X : AX) (I J : Nat → Nat → Int) (cc ss : Nat) (a1 a2 a3 : Int) (h : Ev X k_X8_use (0, [some (vr 0), some (vi a1), some (vi a2), some (vi a3)], []) (MS I J cc ss) (fun o T => o = .inr 2 ∧ T = MS I J (cc + 1) (ss + 6))) : Ev X k_L_use (0, [some (vr 0), some (vi a1), some (vi a2), some (vi a3), some (vr 145), none], []) (MS I J cc ss) (fun o T => o = .inl (some (vi 1)) ∧ T = MS I J (cc + 1) (ss + 6)) := by
  refine ev_n (fr' := (7, [some (vr 0), some (vi a1), some (vi a2), some (vi a3), some (vr 145), none], [vi a3, vi a2, vi a1, vr 0, vi 0, vr 145])) (S' := MS I J cc ss) 6 rfl ?_
  refine ev_ch rfl rfl rfl ⟨Nat.le_of_ble_eq_true rfl, Nat.le_of_ble_eq_true rfl⟩ (h) rfl ?_
  show Ev X k_L_use (15, [some (vr 0), some (vi a1), some (vi a2), some (vi a3), some (vr 145), none], [vj]) (MS I J (cc + 1) (ss + 6)) _
  refine ev_n (fr' := (18, [some (vr 0), some (vi a1), some (vi a2), some (vi a3), some (vr 145), some (vj)], [vi 1])) (S' := MS I J (cc + 1) (ss + 6)) 2 rfl ?_
  refine ev_r rfl rfl rfl ?_
  exact ⟨rfl, rfl⟩
theorem wx_use_1 (X : AX) (I J : Nat → Nat → Int) (cc ss : Nat) (a1 a2 a3 : Int) (h : Ev X k_X8_use (0, [some (vr 0), some (vi a1), some (vi a2), some (vi a3)], []) (MS I J cc ss) (fun o T => o = .inr 1 ∧ T = MS I J (cc + 1) (ss + 6))) : Ev X k_L_use (0, [some (vr 0), some (vi a1), some (vi a2), some (vi a3), some (vr 145), none], []) (MS I J cc ss) (fun o T => o = .inl (some (vi 2)) ∧ T = MS I J (cc + 1) (ss + 6)) := by
  refine ev_n (fr' := (7, [some (vr 0), some (vi a1), some (vi a2), some (vi a3), some (vr 145), none], [vi a3, vi a2, vi a1, vr 0, vi 0, vr 145])) (S' := MS I J cc ss) 6 rfl ?_
  refine ev_ch rfl rfl rfl ⟨Nat.le_of_ble_eq_true rfl, Nat.le_of_ble_eq_true rfl⟩ (h) rfl ?_
  show Ev X k_L_use (19, [some (vr 0), some (vi a1), some (vi a2), some (vi a3), some (vr 145), none], [vj]) (MS I J (cc + 1) (ss + 6)) _
  refine ev_n (fr' := (22, [some (vr 0), some (vi a1), some (vi a2), some (vi a3), some (vr 145), some (vj)], [vi 2])) (S' := MS I J (cc + 1) (ss + 6)) 2 rfl ?_
  refine ev_r rfl rfl rfl ?_
  exact ⟨rfl, rfl⟩
theorem wl_addUse (X : AX) (I J : Nat → Nat → Int) (cc ss : Nat) (a1 a2 a3 a4 : Int) {P : Int → F2 → F2 → Prop} (h : Ev X k_X8_addUse (0, [some (vr 0), some (vi a1), some (vi a2), some (vi a3), some (vi a4), none], []) (MS I J cc ss) (PZ cc ss P)) : Ev X k_L_addUse (0, [some (vr 0), some (vi a1), some (vi a2), some (vi a3), some (vi a4), some (vr 145), none], []) (MS I J cc ss) (PWr cc ss P) := by
  refine ev_n (fr' := (9, [some (vr 0), some (vi a1), some (vi a2), some (vi a3), some (vi a4), some (vr 145), none], [vi a4, vi a3, vi a2, vi a1, vr 0, vi 0, vr 145])) (S' := MS I J cc ss) 7 rfl ?_
  refine ev_cz rfl rfl rfl ⟨Nat.le_of_ble_eq_true rfl, Nat.le_of_ble_eq_true rfl⟩ (h) (fun z1 I1 J1 q1 => ?_)
  obtain q1 := q1
  show Ev X k_L_addUse (12, [some (vr 0), some (vi a1), some (vi a2), some (vi a3), some (vi a4), some (vr 145), none], [vi z1, vi 0, vr 145]) (MS I1 J1 cc ss) _
  have hp := q1
  refine ev_n (fr' := (13, [some (vr 0), some (vi a1), some (vi a2), some (vi a3), some (vi a4), some (vr 145), none], [vl z1, vi 0, vr 145])) (S' := MS I1 J1 cc ss) 1 rfl ?_
  refine ev_lasN (j := 0) rfl rfl (by omega) (by omega) ?_
  show Ev X k_L_addUse (14, [some (vr 0), some (vi a1), some (vi a2), some (vi a3), some (vi a4), some (vr 145), none], []) (MS I1 (up2 J1 145 0 z1) cc ss) _
  refine ev_n (fr' := (30, [some (vr 0), some (vi a1), some (vi a2), some (vi a3), some (vi a4), some (vr 145), none], [vi 0])) (S' := MS I1 (up2 J1 145 0 z1) cc ss) 2 rfl ?_
  refine ev_r rfl rfl rfl ?_
  exact ⟨_, _, rfl, rfl, _, _, rfl, hp⟩
theorem wx_addUse_2 (X : AX) (I J : Nat → Nat → Int) (cc ss : Nat) (a1 a2 a3 a4 : Int) (h : Ev X k_X8_addUse (0, [some (vr 0), some (vi a1), some (vi a2), some (vi a3), some (vi a4), none], []) (MS I J cc ss) (fun o T => o = .inr 2 ∧ T = MS I J (cc + 1) (ss + 6))) : Ev X k_L_addUse (0, [some (vr 0), some (vi a1), some (vi a2), some (vi a3), some (vi a4), some (vr 145), none], []) (MS I J cc ss) (fun o T => o = .inl (some (vi 1)) ∧ T = MS I J (cc + 1) (ss + 6)) := by
  refine ev_n (fr' := (9, [some (vr 0), some (vi a1), some (vi a2), some (vi a3), some (vi a4), some (vr 145), none], [vi a4, vi a3, vi a2, vi a1, vr 0, vi 0, vr 145])) (S' := MS I J cc ss) 7 rfl ?_
  refine ev_ch rfl rfl rfl ⟨Nat.le_of_ble_eq_true rfl, Nat.le_of_ble_eq_true rfl⟩ (h) rfl ?_
  show Ev X k_L_addUse (17, [some (vr 0), some (vi a1), some (vi a2), some (vi a3), some (vi a4), some (vr 145), none], [vj]) (MS I J (cc + 1) (ss + 6)) _
  refine ev_n (fr' := (20, [some (vr 0), some (vi a1), some (vi a2), some (vi a3), some (vi a4), some (vr 145), some (vj)], [vi 1])) (S' := MS I J (cc + 1) (ss + 6)) 2 rfl ?_
  refine ev_r rfl rfl rfl ?_
  exact ⟨rfl, rfl⟩
theorem wx_addUse_1 (X : AX) (I J : Nat → Nat → Int) (cc ss : Nat) (a1 a2 a3 a4 : Int) (h : Ev X k_X8_addUse (0, [some (vr 0), some (vi a1), some (vi a2), some (vi a3), some (vi a4), none], []) (MS I J cc ss) (fun o T => o = .inr 1 ∧ T = MS I J (cc + 1) (ss + 6))) : Ev X k_L_addUse (0, [some (vr 0), some (vi a1), some (vi a2), some (vi a3), some (vi a4), some (vr 145), none], []) (MS I J cc ss) (fun o T => o = .inl (some (vi 2)) ∧ T = MS I J (cc + 1) (ss + 6)) := by
  refine ev_n (fr' := (9, [some (vr 0), some (vi a1), some (vi a2), some (vi a3), some (vi a4), some (vr 145), none], [vi a4, vi a3, vi a2, vi a1, vr 0, vi 0, vr 145])) (S' := MS I J cc ss) 7 rfl ?_
  refine ev_ch rfl rfl rfl ⟨Nat.le_of_ble_eq_true rfl, Nat.le_of_ble_eq_true rfl⟩ (h) rfl ?_
  show Ev X k_L_addUse (21, [some (vr 0), some (vi a1), some (vi a2), some (vi a3), some (vi a4), some (vr 145), none], [vj]) (MS I J (cc + 1) (ss + 6)) _
  refine ev_n (fr' := (24, [some (vr 0), some (vi a1), some (vi a2), some (vi a3), some (vi a4), some (vr 145), some (vj)], [vi 2])) (S' := MS I J (cc + 1) (ss + 6)) 2 rfl ?_
  refine ev_r rfl rfl rfl ?_
  exact ⟨rfl, rfl⟩
theorem wx_addUse_0 (X : AX) (I J : Nat → Nat → Int) (cc ss : Nat) (a1 a2 a3 a4 : Int) (h : Ev X k_X8_addUse (0, [some (vr 0), some (vi a1), some (vi a2), some (vi a3), some (vi a4), none], []) (MS I J cc ss) (fun o T => o = .inr 0 ∧ T = MS I J (cc + 1) (ss + 6))) : Ev X k_L_addUse (0, [some (vr 0), some (vi a1), some (vi a2), some (vi a3), some (vi a4), some (vr 145), none], []) (MS I J cc ss) (fun o T => o = .inl (some (vi 3)) ∧ T = MS I J (cc + 1) (ss + 6)) := by
  refine ev_n (fr' := (9, [some (vr 0), some (vi a1), some (vi a2), some (vi a3), some (vi a4), some (vr 145), none], [vi a4, vi a3, vi a2, vi a1, vr 0, vi 0, vr 145])) (S' := MS I J cc ss) 7 rfl ?_
  refine ev_ch rfl rfl rfl ⟨Nat.le_of_ble_eq_true rfl, Nat.le_of_ble_eq_true rfl⟩ (h) rfl ?_
  show Ev X k_L_addUse (25, [some (vr 0), some (vi a1), some (vi a2), some (vi a3), some (vi a4), some (vr 145), none], [vj]) (MS I J (cc + 1) (ss + 6)) _
  refine ev_n (fr' := (28, [some (vr 0), some (vi a1), some (vi a2), some (vi a3), some (vi a4), some (vr 145), some (vj)], [vi 3])) (S' := MS I J (cc + 1) (ss + 6)) 2 rfl ?_
  refine ev_r rfl rfl rfl ?_
  exact ⟨rfl, rfl⟩
theorem wl_moveUse (X : AX) (I J : Nat → Nat → Int) (cc ss : Nat) (a1 a2 a3 a4 : Int) {P : Int → F2 → F2 → Prop} (h : Ev X k_X8_moveUse (0, [some (vr 0), some (vi a1), some (vi a2), some (vi a3), some (vi a4)], []) (MS I J cc ss) (PZ cc ss P)) : Ev X k_L_moveUse (0, [some (vr 0), some (vi a1), some (vi a2), some (vi a3), some (vi a4), some (vr 145), none], []) (MS I J cc ss) (PWr cc ss P) := by
  refine ev_n (fr' := (9, [some (vr 0), some (vi a1), some (vi a2), some (vi a3), some (vi a4), some (vr 145), none], [vi a4, vi a3, vi a2, vi a1, vr 0, vi 0, vr 145])) (S' := MS I J cc ss) 7 rfl ?_
  refine ev_cz rfl rfl rfl ⟨Nat.le_of_ble_eq_true rfl, Nat.le_of_ble_eq_true rfl⟩ (h) (fun z1 I1 J1 q1 => ?_)
  obtain q1 := q1
  show Ev X k_L_moveUse (12, [some (vr 0), some (vi a1), some (vi a2), some (vi a3), some (vi a4), some (vr 145), none], [vi z1, vi 0, vr 145]) (MS I1 J1 cc ss) _
  have hp := q1
  refine ev_n (fr' := (13, [some (vr 0), some (vi a1), some (vi a2), some (vi a3), some (vi a4), some (vr 145), none], [vl z1, vi 0, vr 145])) (S' := MS I1 J1 cc ss) 1 rfl ?_
  refine ev_lasN (j := 0) rfl rfl (by omega) (by omega) ?_
  show Ev X k_L_moveUse (14, [some (vr 0), some (vi a1), some (vi a2), some (vi a3), some (vi a4), some (vr 145), none], []) (MS I1 (up2 J1 145 0 z1) cc ss) _
  refine ev_n (fr' := (26, [some (vr 0), some (vi a1), some (vi a2), some (vi a3), some (vi a4), some (vr 145), none], [vi 0])) (S' := MS I1 (up2 J1 145 0 z1) cc ss) 2 rfl ?_
  refine ev_r rfl rfl rfl ?_
  exact ⟨_, _, rfl, rfl, _, _, rfl, hp⟩
theorem wx_moveUse_2 (X : AX) (I J : Nat → Nat → Int) (cc ss : Nat) (a1 a2 a3 a4 : Int) (h : Ev X k_X8_moveUse (0, [some (vr 0), some (vi a1), some (vi a2), some (vi a3), some (vi a4)], []) (MS I J cc ss) (fun o T => o = .inr 2 ∧ T = MS I J (cc + 1) (ss + 6))) : Ev X k_L_moveUse (0, [some (vr 0), some (vi a1), some (vi a2), some (vi a3), some (vi a4), some (vr 145), none], []) (MS I J cc ss) (fun o T => o = .inl (some (vi 1)) ∧ T = MS I J (cc + 1) (ss + 6)) := by
  refine ev_n (fr' := (9, [some (vr 0), some (vi a1), some (vi a2), some (vi a3), some (vi a4), some (vr 145), none], [vi a4, vi a3, vi a2, vi a1, vr 0, vi 0, vr 145])) (S' := MS I J cc ss) 7 rfl ?_
  refine ev_ch rfl rfl rfl ⟨Nat.le_of_ble_eq_true rfl, Nat.le_of_ble_eq_true rfl⟩ (h) rfl ?_
  show Ev X k_L_moveUse (17, [some (vr 0), some (vi a1), some (vi a2), some (vi a3), some (vi a4), some (vr 145), none], [vj]) (MS I J (cc + 1) (ss + 6)) _
  refine ev_n (fr' := (20, [some (vr 0), some (vi a1), some (vi a2), some (vi a3), some (vi a4), some (vr 145), some (vj)], [vi 1])) (S' := MS I J (cc + 1) (ss + 6)) 2 rfl ?_
  refine ev_r rfl rfl rfl ?_
  exact ⟨rfl, rfl⟩
theorem wx_moveUse_1 (X : AX) (I J : Nat → Nat → Int) (cc ss : Nat) (a1 a2 a3 a4 : Int) (h : Ev X k_X8_moveUse (0, [some (vr 0), some (vi a1), some (vi a2), some (vi a3), some (vi a4)], []) (MS I J cc ss) (fun o T => o = .inr 1 ∧ T = MS I J (cc + 1) (ss + 6))) : Ev X k_L_moveUse (0, [some (vr 0), some (vi a1), some (vi a2), some (vi a3), some (vi a4), some (vr 145), none], []) (MS I J cc ss) (fun o T => o = .inl (some (vi 2)) ∧ T = MS I J (cc + 1) (ss + 6)) := by
  refine ev_n (fr' := (9, [some (vr 0), some (vi a1), some (vi a2), some (vi a3), some (vi a4), some (vr 145), none], [vi a4, vi a3, vi a2, vi a1, vr 0, vi 0, vr 145])) (S' := MS I J cc ss) 7 rfl ?_
  refine ev_ch rfl rfl rfl ⟨Nat.le_of_ble_eq_true rfl, Nat.le_of_ble_eq_true rfl⟩ (h) rfl ?_
  show Ev X k_L_moveUse (21, [some (vr 0), some (vi a1), some (vi a2), some (vi a3), some (vi a4), some (vr 145), none], [vj]) (MS I J (cc + 1) (ss + 6)) _
  refine ev_n (fr' := (24, [some (vr 0), some (vi a1), some (vi a2), some (vi a3), some (vi a4), some (vr 145), some (vj)], [vi 2])) (S' := MS I J (cc + 1) (ss + 6)) 2 rfl ?_
  refine ev_r rfl rfl rfl ?_
  exact ⟨rfl, rfl⟩
theorem wl_removeUse (X : AX) (I J : Nat → Nat → Int) (cc ss : Nat) (a1 a2 : Int) {P : Int → F2 → F2 → Prop} (h : Ev X k_X8_removeUse (0, [some (vr 0), some (vi a1), some (vi a2)], []) (MS I J cc ss) (PZ cc ss P)) : Ev X k_L_removeUse (0, [some (vr 0), some (vi a1), some (vi a2), some (vr 145), none], []) (MS I J cc ss) (PWr cc ss P) := by
  refine ev_n (fr' := (5, [some (vr 0), some (vi a1), some (vi a2), some (vr 145), none], [vi a2, vi a1, vr 0, vi 0, vr 145])) (S' := MS I J cc ss) 5 rfl ?_
  refine ev_cz rfl rfl rfl ⟨Nat.le_of_ble_eq_true rfl, Nat.le_of_ble_eq_true rfl⟩ (h) (fun z1 I1 J1 q1 => ?_)
  obtain q1 := q1
  show Ev X k_L_removeUse (8, [some (vr 0), some (vi a1), some (vi a2), some (vr 145), none], [vi z1, vi 0, vr 145]) (MS I1 J1 cc ss) _
  have hp := q1
  refine ev_n (fr' := (9, [some (vr 0), some (vi a1), some (vi a2), some (vr 145), none], [vl z1, vi 0, vr 145])) (S' := MS I1 J1 cc ss) 1 rfl ?_
  refine ev_lasN (j := 0) rfl rfl (by omega) (by omega) ?_
  show Ev X k_L_removeUse (10, [some (vr 0), some (vi a1), some (vi a2), some (vr 145), none], []) (MS I1 (up2 J1 145 0 z1) cc ss) _
  refine ev_n (fr' := (18, [some (vr 0), some (vi a1), some (vi a2), some (vr 145), none], [vi 0])) (S' := MS I1 (up2 J1 145 0 z1) cc ss) 2 rfl ?_
  refine ev_r rfl rfl rfl ?_
  exact ⟨_, _, rfl, rfl, _, _, rfl, hp⟩
theorem wx_removeUse_2 (X : AX) (I J : Nat → Nat → Int) (cc ss : Nat) (a1 a2 : Int) (h : Ev X k_X8_removeUse (0, [some (vr 0), some (vi a1), some (vi a2)], []) (MS I J cc ss) (fun o T => o = .inr 2 ∧ T = MS I J (cc + 1) (ss + 6))) : Ev X k_L_removeUse (0, [some (vr 0), some (vi a1), some (vi a2), some (vr 145), none], []) (MS I J cc ss) (fun o T => o = .inl (some (vi 1)) ∧ T = MS I J (cc + 1) (ss + 6)) := by
  refine ev_n (fr' := (5, [some (vr 0), some (vi a1), some (vi a2), some (vr 145), none], [vi a2, vi a1, vr 0, vi 0, vr 145])) (S' := MS I J cc ss) 5 rfl ?_
  refine ev_ch rfl rfl rfl ⟨Nat.le_of_ble_eq_true rfl, Nat.le_of_ble_eq_true rfl⟩ (h) rfl ?_
  show Ev X k_L_removeUse (13, [some (vr 0), some (vi a1), some (vi a2), some (vr 145), none], [vj]) (MS I J (cc + 1) (ss + 6)) _
  refine ev_n (fr' := (16, [some (vr 0), some (vi a1), some (vi a2), some (vr 145), some (vj)], [vi 1])) (S' := MS I J (cc + 1) (ss + 6)) 2 rfl ?_
  refine ev_r rfl rfl rfl ?_
  exact ⟨rfl, rfl⟩
theorem wl_isInked (X : AX) (I J : Nat → Nat → Int) (cc ss : Nat) (a1 a2 a3 a4 : Int) {P : Int → F2 → F2 → Prop} (h : Ev X k_X8_isInked (0, [some (vr 0), some (vi a1), some (vi a2), some (vi a3), some (vi a4), none], []) (MS I J cc ss) (PZ cc ss P)) (hB : ∀ z I1 J1, P z I1 J1 → z = 0 ∨ z = 1) : Ev X k_L_isInked (0, [some (vr 0), some (vi a1), some (vi a2), some (vi a3), some (vi a4), some (vr 145), none], []) (MS I J cc ss) (PWr cc ss P) := by
  refine ev_n (fr' := (9, [some (vr 0), some (vi a1), some (vi a2), some (vi a3), some (vi a4), some (vr 145), none], [vi a4, vi a3, vi a2, vi a1, vr 0, vi 0, vr 145])) (S' := MS I J cc ss) 7 rfl ?_
  refine ev_cz rfl rfl rfl ⟨Nat.le_of_ble_eq_true rfl, Nat.le_of_ble_eq_true rfl⟩ (h) (fun z1 I1 J1 q1 => ?_)
  obtain q1 := q1
  show Ev X k_L_isInked (12, [some (vr 0), some (vi a1), some (vi a2), some (vi a3), some (vi a4), some (vr 145), none], [vi z1, vi 0, vr 145]) (MS I1 J1 cc ss) _
  have hp := q1
  refine ev_if (c := .eq) (off := 7) rfl (by decide) (fun (g1 : z1 = 0) => ?_) (fun (g1 : ¬ (z1 = 0)) => ?_)
  · show Ev X k_L_isInked (19, [some (vr 0), some (vi a1), some (vi a2), some (vi a3), some (vi a4), some (vr 145), none], [vi 0, vr 145]) (MS I1 J1 cc ss) _
    refine ev_n (fr' := (20, [some (vr 0), some (vi a1), some (vi a2), some (vi a3), some (vi a4), some (vr 145), none], [vl 0, vi 0, vr 145])) (S' := MS I1 J1 cc ss) 1 rfl ?_
    refine ev_lasN (j := 0) rfl rfl (by omega) (by omega) ?_
    show Ev X k_L_isInked (21, [some (vr 0), some (vi a1), some (vi a2), some (vi a3), some (vi a4), some (vr 145), none], []) (MS I1 (up2 J1 145 0 0) cc ss) _
    refine ev_n (fr' := (29, [some (vr 0), some (vi a1), some (vi a2), some (vi a3), some (vi a4), some (vr 145), none], [vi 0])) (S' := MS I1 (up2 J1 145 0 0) cc ss) 2 rfl ?_
    refine ev_r rfl rfl rfl ?_
    have ez : z1 = 0 := by have := hB _ _ _ hp; omega
    exact ⟨_, _, rfl, rfl, _, _, by rw [ez], hp⟩
  · show Ev X k_L_isInked (15, [some (vr 0), some (vi a1), some (vi a2), some (vi a3), some (vi a4), some (vr 145), none], [vi 0, vr 145]) (MS I1 J1 cc ss) _
    refine ev_n (fr' := (20, [some (vr 0), some (vi a1), some (vi a2), some (vi a3), some (vi a4), some (vr 145), none], [vl 1, vi 0, vr 145])) (S' := MS I1 J1 cc ss) 2 rfl ?_
    refine ev_lasN (j := 0) rfl rfl (by omega) (by omega) ?_
    show Ev X k_L_isInked (21, [some (vr 0), some (vi a1), some (vi a2), some (vi a3), some (vi a4), some (vr 145), none], []) (MS I1 (up2 J1 145 0 1) cc ss) _
    refine ev_n (fr' := (29, [some (vr 0), some (vi a1), some (vi a2), some (vi a3), some (vi a4), some (vr 145), none], [vi 0])) (S' := MS I1 (up2 J1 145 0 1) cc ss) 2 rfl ?_
    refine ev_r rfl rfl rfl ?_
    have ez : z1 = 1 := by have := hB _ _ _ hp; omega
    exact ⟨_, _, rfl, rfl, _, _, by rw [ez], hp⟩
theorem wx_isInked_2 (X : AX) (I J : Nat → Nat → Int) (cc ss : Nat) (a1 a2 a3 a4 : Int) (h : Ev X k_X8_isInked (0, [some (vr 0), some (vi a1), some (vi a2), some (vi a3), some (vi a4), none], []) (MS I J cc ss) (fun o T => o = .inr 2 ∧ T = MS I J (cc + 1) (ss + 6))) : Ev X k_L_isInked (0, [some (vr 0), some (vi a1), some (vi a2), some (vi a3), some (vi a4), some (vr 145), none], []) (MS I J cc ss) (fun o T => o = .inl (some (vi 1)) ∧ T = MS I J (cc + 1) (ss + 6)) := by
  refine ev_n (fr' := (9, [some (vr 0), some (vi a1), some (vi a2), some (vi a3), some (vi a4), some (vr 145), none], [vi a4, vi a3, vi a2, vi a1, vr 0, vi 0, vr 145])) (S' := MS I J cc ss) 7 rfl ?_
  refine ev_ch rfl rfl rfl ⟨Nat.le_of_ble_eq_true rfl, Nat.le_of_ble_eq_true rfl⟩ (h) rfl ?_
  show Ev X k_L_isInked (24, [some (vr 0), some (vi a1), some (vi a2), some (vi a3), some (vi a4), some (vr 145), none], [vj]) (MS I J (cc + 1) (ss + 6)) _
  refine ev_n (fr' := (27, [some (vr 0), some (vi a1), some (vi a2), some (vi a3), some (vi a4), some (vr 145), some (vj)], [vi 1])) (S' := MS I J (cc + 1) (ss + 6)) 2 rfl ?_
  refine ev_r rfl rfl rfl ?_
  exact ⟨rfl, rfl⟩
theorem wl_measure (X : AX) (I J : Nat → Nat → Int) (cc ss : Nat) (a1 a2 a3 : Int) {P : Int → F2 → F2 → Prop} (h : Ev X k_X8_measure (0, [some (vr 0), some (vi a1), some (vi a2), some (vi a3)], []) (MS I J cc ss) (PZ cc ss P)) : Ev X k_L_measure (0, [some (vr 0), some (vi a1), some (vi a2), some (vi a3), some (vr 145), none], []) (MS I J cc ss) (PWr cc ss P) := by
  refine ev_n (fr' := (7, [some (vr 0), some (vi a1), some (vi a2), some (vi a3), some (vr 145), none], [vi a3, vi a2, vi a1, vr 0, vi 0, vr 145])) (S' := MS I J cc ss) 6 rfl ?_
  refine ev_cz rfl rfl rfl ⟨Nat.le_of_ble_eq_true rfl, Nat.le_of_ble_eq_true rfl⟩ (h) (fun z1 I1 J1 q1 => ?_)
  obtain q1 := q1
  show Ev X k_L_measure (10, [some (vr 0), some (vi a1), some (vi a2), some (vi a3), some (vr 145), none], [vi z1, vi 0, vr 145]) (MS I1 J1 cc ss) _
  have hp := q1
  refine ev_n (fr' := (11, [some (vr 0), some (vi a1), some (vi a2), some (vi a3), some (vr 145), none], [vl z1, vi 0, vr 145])) (S' := MS I1 J1 cc ss) 1 rfl ?_
  refine ev_lasN (j := 0) rfl rfl (by omega) (by omega) ?_
  show Ev X k_L_measure (12, [some (vr 0), some (vi a1), some (vi a2), some (vi a3), some (vr 145), none], []) (MS I1 (up2 J1 145 0 z1) cc ss) _
  refine ev_n (fr' := (24, [some (vr 0), some (vi a1), some (vi a2), some (vi a3), some (vr 145), none], [vi 0])) (S' := MS I1 (up2 J1 145 0 z1) cc ss) 2 rfl ?_
  refine ev_r rfl rfl rfl ?_
  exact ⟨_, _, rfl, rfl, _, _, rfl, hp⟩
theorem wx_measure_2 (X : AX) (I J : Nat → Nat → Int) (cc ss : Nat) (a1 a2 a3 : Int) (h : Ev X k_X8_measure (0, [some (vr 0), some (vi a1), some (vi a2), some (vi a3)], []) (MS I J cc ss) (fun o T => o = .inr 2 ∧ T = MS I J (cc + 1) (ss + 6))) : Ev X k_L_measure (0, [some (vr 0), some (vi a1), some (vi a2), some (vi a3), some (vr 145), none], []) (MS I J cc ss) (fun o T => o = .inl (some (vi 1)) ∧ T = MS I J (cc + 1) (ss + 6)) := by
  refine ev_n (fr' := (7, [some (vr 0), some (vi a1), some (vi a2), some (vi a3), some (vr 145), none], [vi a3, vi a2, vi a1, vr 0, vi 0, vr 145])) (S' := MS I J cc ss) 6 rfl ?_
  refine ev_ch rfl rfl rfl ⟨Nat.le_of_ble_eq_true rfl, Nat.le_of_ble_eq_true rfl⟩ (h) rfl ?_
  show Ev X k_L_measure (15, [some (vr 0), some (vi a1), some (vi a2), some (vi a3), some (vr 145), none], [vj]) (MS I J (cc + 1) (ss + 6)) _
  refine ev_n (fr' := (18, [some (vr 0), some (vi a1), some (vi a2), some (vi a3), some (vr 145), some (vj)], [vi 1])) (S' := MS I J (cc + 1) (ss + 6)) 2 rfl ?_
  refine ev_r rfl rfl rfl ?_
  exact ⟨rfl, rfl⟩
theorem wx_measure_1 (X : AX) (I J : Nat → Nat → Int) (cc ss : Nat) (a1 a2 a3 : Int) (h : Ev X k_X8_measure (0, [some (vr 0), some (vi a1), some (vi a2), some (vi a3)], []) (MS I J cc ss) (fun o T => o = .inr 1 ∧ T = MS I J (cc + 1) (ss + 6))) : Ev X k_L_measure (0, [some (vr 0), some (vi a1), some (vi a2), some (vi a3), some (vr 145), none], []) (MS I J cc ss) (fun o T => o = .inl (some (vi 2)) ∧ T = MS I J (cc + 1) (ss + 6)) := by
  refine ev_n (fr' := (7, [some (vr 0), some (vi a1), some (vi a2), some (vi a3), some (vr 145), none], [vi a3, vi a2, vi a1, vr 0, vi 0, vr 145])) (S' := MS I J cc ss) 6 rfl ?_
  refine ev_ch rfl rfl rfl ⟨Nat.le_of_ble_eq_true rfl, Nat.le_of_ble_eq_true rfl⟩ (h) rfl ?_
  show Ev X k_L_measure (19, [some (vr 0), some (vi a1), some (vi a2), some (vi a3), some (vr 145), none], [vj]) (MS I J (cc + 1) (ss + 6)) _
  refine ev_n (fr' := (22, [some (vr 0), some (vi a1), some (vi a2), some (vi a3), some (vr 145), some (vj)], [vi 2])) (S' := MS I J (cc + 1) (ss + 6)) 2 rfl ?_
  refine ev_r rfl rfl rfl ?_
  exact ⟨rfl, rfl⟩
theorem wl_isMirrored (X : AX) (I J : Nat → Nat → Int) (cc ss : Nat) (a1 a2 a3 : Int) {P : Int → F2 → F2 → Prop} (h : Ev X k_X8_isMirrored (0, [some (vr 0), some (vi a1), some (vi a2), some (vi a3)], []) (MS I J cc ss) (PZ cc ss P)) (hB : ∀ z I1 J1, P z I1 J1 → z = 0 ∨ z = 1) : Ev X k_L_isMirrored (0, [some (vr 0), some (vi a1), some (vi a2), some (vi a3), some (vr 145), none], []) (MS I J cc ss) (PWr cc ss P) := by
  refine ev_n (fr' := (7, [some (vr 0), some (vi a1), some (vi a2), some (vi a3), some (vr 145), none], [vi a3, vi a2, vi a1, vr 0, vi 0, vr 145])) (S' := MS I J cc ss) 6 rfl ?_
  refine ev_cz rfl rfl rfl ⟨Nat.le_of_ble_eq_true rfl, Nat.le_of_ble_eq_true rfl⟩ (h) (fun z1 I1 J1 q1 => ?_)
  obtain q1 := q1
  show Ev X k_L_isMirrored (10, [some (vr 0), some (vi a1), some (vi a2), some (vi a3), some (vr 145), none], [vi z1, vi 0, vr 145]) (MS I1 J1 cc ss) _
  have hp := q1
  refine ev_if (c := .eq) (off := 7) rfl (by decide) (fun (g1 : z1 = 0) => ?_) (fun (g1 : ¬ (z1 = 0)) => ?_)
  · show Ev X k_L_isMirrored (17, [some (vr 0), some (vi a1), some (vi a2), some (vi a3), some (vr 145), none], [vi 0, vr 145]) (MS I1 J1 cc ss) _
    refine ev_n (fr' := (18, [some (vr 0), some (vi a1), some (vi a2), some (vi a3), some (vr 145), none], [vl 0, vi 0, vr 145])) (S' := MS I1 J1 cc ss) 1 rfl ?_
    refine ev_lasN (j := 0) rfl rfl (by omega) (by omega) ?_
    show Ev X k_L_isMirrored (19, [some (vr 0), some (vi a1), some (vi a2), some (vi a3), some (vr 145), none], []) (MS I1 (up2 J1 145 0 0) cc ss) _
    refine ev_n (fr' := (27, [some (vr 0), some (vi a1), some (vi a2), some (vi a3), some (vr 145), none], [vi 0])) (S' := MS I1 (up2 J1 145 0 0) cc ss) 2 rfl ?_
    refine ev_r rfl rfl rfl ?_
    have ez : z1 = 0 := by have := hB _ _ _ hp; omega
    exact ⟨_, _, rfl, rfl, _, _, by rw [ez], hp⟩
  · show Ev X k_L_isMirrored (13, [some (vr 0), some (vi a1), some (vi a2), some (vi a3), some (vr 145), none], [vi 0, vr 145]) (MS I1 J1 cc ss) _
    refine ev_n (fr' := (18, [some (vr 0), some (vi a1), some (vi a2), some (vi a3), some (vr 145), none], [vl 1, vi 0, vr 145])) (S' := MS I1 J1 cc ss) 2 rfl ?_
    refine ev_lasN (j := 0) rfl rfl (by omega) (by omega) ?_
    show Ev X k_L_isMirrored (19, [some (vr 0), some (vi a1), some (vi a2), some (vi a3), some (vr 145), none], []) (MS I1 (up2 J1 145 0 1) cc ss) _
    refine ev_n (fr' := (27, [some (vr 0), some (vi a1), some (vi a2), some (vi a3), some (vr 145), none], [vi 0])) (S' := MS I1 (up2 J1 145 0 1) cc ss) 2 rfl ?_
    refine ev_r rfl rfl rfl ?_
    have ez : z1 = 1 := by have := hB _ _ _ hp; omega
    exact ⟨_, _, rfl, rfl, _, _, by rw [ez], hp⟩
theorem wx_isMirrored_2 (X : AX) (I J : Nat → Nat → Int) (cc ss : Nat) (a1 a2 a3 : Int) (h : Ev X k_X8_isMirrored (0, [some (vr 0), some (vi a1), some (vi a2), some (vi a3)], []) (MS I J cc ss) (fun o T => o = .inr 2 ∧ T = MS I J (cc + 1) (ss + 6))) : Ev X k_L_isMirrored (0, [some (vr 0), some (vi a1), some (vi a2), some (vi a3), some (vr 145), none], []) (MS I J cc ss) (fun o T => o = .inl (some (vi 1)) ∧ T = MS I J (cc + 1) (ss + 6)) := by
  refine ev_n (fr' := (7, [some (vr 0), some (vi a1), some (vi a2), some (vi a3), some (vr 145), none], [vi a3, vi a2, vi a1, vr 0, vi 0, vr 145])) (S' := MS I J cc ss) 6 rfl ?_
  refine ev_ch rfl rfl rfl ⟨Nat.le_of_ble_eq_true rfl, Nat.le_of_ble_eq_true rfl⟩ (h) rfl ?_
  show Ev X k_L_isMirrored (22, [some (vr 0), some (vi a1), some (vi a2), some (vi a3), some (vr 145), none], [vj]) (MS I J (cc + 1) (ss + 6)) _
  refine ev_n (fr' := (25, [some (vr 0), some (vi a1), some (vi a2), some (vi a3), some (vr 145), some (vj)], [vi 1])) (S' := MS I J (cc + 1) (ss + 6)) 2 rfl ?_
  refine ev_r rfl rfl rfl ?_
  exact ⟨rfl, rfl⟩
theorem wl_difference (X : AX) (I J : Nat → Nat → Int) (cc ss : Nat) (a1 a2 a3 : Int) {P : Int → F2 → F2 → Prop} (h : Ev X k_X8_difference (0, [some (vr 0), some (vi a1), some (vi a2), some (vi a3)], []) (MS I J cc ss) (PZ cc ss P)) : Ev X k_L_difference (0, [some (vr 0), some (vi a1), some (vi a2), some (vi a3), some (vr 145), none], []) (MS I J cc ss) (PWr cc ss P) := by
  refine ev_n (fr' := (7, [some (vr 0), some (vi a1), some (vi a2), some (vi a3), some (vr 145), none], [vi a3, vi a2, vi a1, vr 0, vi 0, vr 145])) (S' := MS I J cc ss) 6 rfl ?_
  refine ev_cz rfl rfl rfl ⟨Nat.le_of_ble_eq_true rfl, Nat.le_of_ble_eq_true rfl⟩ (h) (fun z1 I1 J1 q1 => ?_)
  obtain q1 := q1
  show Ev X k_L_difference (10, [some (vr 0), some (vi a1), some (vi a2), some (vi a3), some (vr 145), none], [vi z1, vi 0, vr 145]) (MS I1 J1 cc ss) _
  have hp := q1
  refine ev_n (fr' := (11, [some (vr 0), some (vi a1), some (vi a2), some (vi a3), some (vr 145), none], [vl z1, vi 0, vr 145])) (S' := MS I1 J1 cc ss) 1 rfl ?_
  refine ev_lasN (j := 0) rfl rfl (by omega) (by omega) ?_
  show Ev X k_L_difference (12, [some (vr 0), some (vi a1), some (vi a2), some (vi a3), some (vr 145), none], []) (MS I1 (up2 J1 145 0 z1) cc ss) _
  refine ev_n (fr' := (20, [some (vr 0), some (vi a1), some (vi a2), some (vi a3), some (vr 145), none], [vi 0])) (S' := MS I1 (up2 J1 145 0 z1) cc ss) 2 rfl ?_
  refine ev_r rfl rfl rfl ?_
  exact ⟨_, _, rfl, rfl, _, _, rfl, hp⟩
theorem wx_difference_2 (X : AX) (I J : Nat → Nat → Int) (cc ss : Nat) (a1 a2 a3 : Int) (h : Ev X k_X8_difference (0, [some (vr 0), some (vi a1), some (vi a2), some (vi a3)], []) (MS I J cc ss) (fun o T => o = .inr 2 ∧ T = MS I J (cc + 1) (ss + 6))) : Ev X k_L_difference (0, [some (vr 0), some (vi a1), some (vi a2), some (vi a3), some (vr 145), none], []) (MS I J cc ss) (fun o T => o = .inl (some (vi 1)) ∧ T = MS I J (cc + 1) (ss + 6)) := by
  refine ev_n (fr' := (7, [some (vr 0), some (vi a1), some (vi a2), some (vi a3), some (vr 145), none], [vi a3, vi a2, vi a1, vr 0, vi 0, vr 145])) (S' := MS I J cc ss) 6 rfl ?_
  refine ev_ch rfl rfl rfl ⟨Nat.le_of_ble_eq_true rfl, Nat.le_of_ble_eq_true rfl⟩ (h) rfl ?_
  show Ev X k_L_difference (15, [some (vr 0), some (vi a1), some (vi a2), some (vi a3), some (vr 145), none], [vj]) (MS I J (cc + 1) (ss + 6)) _
  refine ev_n (fr' := (18, [some (vr 0), some (vi a1), some (vi a2), some (vi a3), some (vr 145), some (vj)], [vi 1])) (S' := MS I J (cc + 1) (ss + 6)) 2 rfl ?_
  refine ev_r rfl rfl rfl ?_
  exact ⟨rfl, rfl⟩
theorem wl_alone (X : AX) (I J : Nat → Nat → Int) (cc ss : Nat) (a1 a2 a3 : Int) {P : Int → F2 → F2 → Prop} (h : Ev X k_X8_alone (0, [some (vr 0), some (vi a1), some (vi a2), some (vi a3)], []) (MS I J cc ss) (PZ cc ss P)) : Ev X k_L_alone (0, [some (vr 0), some (vi a1), some (vi a2), some (vi a3), some (vr 145), none], []) (MS I J cc ss) (PWr cc ss P) := by
  refine ev_n (fr' := (7, [some (vr 0), some (vi a1), some (vi a2), some (vi a3), some (vr 145), none], [vi a3, vi a2, vi a1, vr 0, vi 0, vr 145])) (S' := MS I J cc ss) 6 rfl ?_
  refine ev_cz rfl rfl rfl ⟨Nat.le_of_ble_eq_true rfl, Nat.le_of_ble_eq_true rfl⟩ (h) (fun z1 I1 J1 q1 => ?_)
  obtain q1 := q1
  show Ev X k_L_alone (10, [some (vr 0), some (vi a1), some (vi a2), some (vi a3), some (vr 145), none], [vi z1, vi 0, vr 145]) (MS I1 J1 cc ss) _
  have hp := q1
  refine ev_n (fr' := (11, [some (vr 0), some (vi a1), some (vi a2), some (vi a3), some (vr 145), none], [vl z1, vi 0, vr 145])) (S' := MS I1 J1 cc ss) 1 rfl ?_
  refine ev_lasN (j := 0) rfl rfl (by omega) (by omega) ?_
  show Ev X k_L_alone (12, [some (vr 0), some (vi a1), some (vi a2), some (vi a3), some (vr 145), none], []) (MS I1 (up2 J1 145 0 z1) cc ss) _
  refine ev_n (fr' := (20, [some (vr 0), some (vi a1), some (vi a2), some (vi a3), some (vr 145), none], [vi 0])) (S' := MS I1 (up2 J1 145 0 z1) cc ss) 2 rfl ?_
  refine ev_r rfl rfl rfl ?_
  exact ⟨_, _, rfl, rfl, _, _, rfl, hp⟩
theorem wx_alone_2 (X : AX) (I J : Nat → Nat → Int) (cc ss : Nat) (a1 a2 a3 : Int) (h : Ev X k_X8_alone (0, [some (vr 0), some (vi a1), some (vi a2), some (vi a3)], []) (MS I J cc ss) (fun o T => o = .inr 2 ∧ T = MS I J (cc + 1) (ss + 6))) : Ev X k_L_alone (0, [some (vr 0), some (vi a1), some (vi a2), some (vi a3), some (vr 145), none], []) (MS I J cc ss) (fun o T => o = .inl (some (vi 1)) ∧ T = MS I J (cc + 1) (ss + 6)) := by
  refine ev_n (fr' := (7, [some (vr 0), some (vi a1), some (vi a2), some (vi a3), some (vr 145), none], [vi a3, vi a2, vi a1, vr 0, vi 0, vr 145])) (S' := MS I J cc ss) 6 rfl ?_
  refine ev_ch rfl rfl rfl ⟨Nat.le_of_ble_eq_true rfl, Nat.le_of_ble_eq_true rfl⟩ (h) rfl ?_
  show Ev X k_L_alone (15, [some (vr 0), some (vi a1), some (vi a2), some (vi a3), some (vr 145), none], [vj]) (MS I J (cc + 1) (ss + 6)) _
  refine ev_n (fr' := (18, [some (vr 0), some (vi a1), some (vi a2), some (vi a3), some (vr 145), some (vj)], [vi 1])) (S' := MS I J (cc + 1) (ss + 6)) 2 rfl ?_
  refine ev_r rfl rfl rfl ?_
  exact ⟨rfl, rfl⟩
theorem wl_keepsTopology (X : AX) (I J : Nat → Nat → Int) (cc ss : Nat) (a1 : Int) {P : Int → F2 → F2 → Prop} (h : Ev X k_X8_keepsTopology (0, [some (vr 0), some (vi a1), none, none], []) (MS I J cc ss) (PZ cc ss P)) (hB : ∀ z I1 J1, P z I1 J1 → z = 0 ∨ z = 1) : Ev X k_L_keepsTopology (0, [some (vr 0), some (vi a1), some (vr 145), none], []) (MS I J cc ss) (PWr cc ss P) := by
  refine ev_n (fr' := (4, [some (vr 0), some (vi a1), some (vr 145), none], [vi a1, vr 0, vi 0, vr 145])) (S' := MS I J cc ss) 4 rfl ?_
  refine ev_cz rfl rfl rfl ⟨Nat.le_of_ble_eq_true rfl, Nat.le_of_ble_eq_true rfl⟩ (h) (fun z1 I1 J1 q1 => ?_)
  obtain q1 := q1
  show Ev X k_L_keepsTopology (7, [some (vr 0), some (vi a1), some (vr 145), none], [vi z1, vi 0, vr 145]) (MS I1 J1 cc ss) _
  have hp := q1
  refine ev_if (c := .eq) (off := 7) rfl (by decide) (fun (g1 : z1 = 0) => ?_) (fun (g1 : ¬ (z1 = 0)) => ?_)
  · show Ev X k_L_keepsTopology (14, [some (vr 0), some (vi a1), some (vr 145), none], [vi 0, vr 145]) (MS I1 J1 cc ss) _
    refine ev_n (fr' := (15, [some (vr 0), some (vi a1), some (vr 145), none], [vl 0, vi 0, vr 145])) (S' := MS I1 J1 cc ss) 1 rfl ?_
    refine ev_lasN (j := 0) rfl rfl (by omega) (by omega) ?_
    show Ev X k_L_keepsTopology (16, [some (vr 0), some (vi a1), some (vr 145), none], []) (MS I1 (up2 J1 145 0 0) cc ss) _
    refine ev_n (fr' := (23, [some (vr 0), some (vi a1), some (vr 145), none], [vi 0])) (S' := MS I1 (up2 J1 145 0 0) cc ss) 2 rfl ?_
    refine ev_r rfl rfl rfl ?_
    have ez : z1 = 0 := by have := hB _ _ _ hp; omega
    exact ⟨_, _, rfl, rfl, _, _, by rw [ez], hp⟩
  · show Ev X k_L_keepsTopology (10, [some (vr 0), some (vi a1), some (vr 145), none], [vi 0, vr 145]) (MS I1 J1 cc ss) _
    refine ev_n (fr' := (15, [some (vr 0), some (vi a1), some (vr 145), none], [vl 1, vi 0, vr 145])) (S' := MS I1 J1 cc ss) 2 rfl ?_
    refine ev_lasN (j := 0) rfl rfl (by omega) (by omega) ?_
    show Ev X k_L_keepsTopology (16, [some (vr 0), some (vi a1), some (vr 145), none], []) (MS I1 (up2 J1 145 0 1) cc ss) _
    refine ev_n (fr' := (23, [some (vr 0), some (vi a1), some (vr 145), none], [vi 0])) (S' := MS I1 (up2 J1 145 0 1) cc ss) 2 rfl ?_
    refine ev_r rfl rfl rfl ?_
    have ez : z1 = 1 := by have := hB _ _ _ hp; omega
    exact ⟨_, _, rfl, rfl, _, _, by rw [ez], hp⟩
theorem wx_keepsTopology_2 (X : AX) (I J : Nat → Nat → Int) (cc ss : Nat) (a1 : Int) (h : Ev X k_X8_keepsTopology (0, [some (vr 0), some (vi a1), none, none], []) (MS I J cc ss) (fun o T => o = .inr 2 ∧ T = MS I J (cc + 1) (ss + 6))) : Ev X k_L_keepsTopology (0, [some (vr 0), some (vi a1), some (vr 145), none], []) (MS I J cc ss) (fun o T => o = .inl (some (vi 1)) ∧ T = MS I J (cc + 1) (ss + 6)) := by
  refine ev_n (fr' := (4, [some (vr 0), some (vi a1), some (vr 145), none], [vi a1, vr 0, vi 0, vr 145])) (S' := MS I J cc ss) 4 rfl ?_
  refine ev_ch rfl rfl rfl ⟨Nat.le_of_ble_eq_true rfl, Nat.le_of_ble_eq_true rfl⟩ (h) rfl ?_
  show Ev X k_L_keepsTopology (19, [some (vr 0), some (vi a1), some (vr 145), none], [vj]) (MS I J (cc + 1) (ss + 6)) _
  refine ev_n (fr' := (21, [some (vr 0), some (vi a1), some (vr 145), some (vj)], [vi 1])) (S' := MS I J (cc + 1) (ss + 6)) 2 rfl ?_
  refine ev_r rfl rfl rfl ?_
  exact ⟨rfl, rfl⟩
theorem wl_smallest (X : AX) (I J : Nat → Nat → Int) (cc ss : Nat) (a1 : Int) {P : Int → F2 → F2 → Prop} (h : Ev X k_X8_smallest (0, [some (vr 0), some (vi a1), none, none, none], []) (MS I J cc ss) (PZ cc ss P)) : Ev X k_L_smallest (0, [some (vr 0), some (vi a1), some (vr 145), none], []) (MS I J cc ss) (PWr cc ss P) := by
  refine ev_n (fr' := (4, [some (vr 0), some (vi a1), some (vr 145), none], [vi a1, vr 0, vi 0, vr 145])) (S' := MS I J cc ss) 4 rfl ?_
  refine ev_cz rfl rfl rfl ⟨Nat.le_of_ble_eq_true rfl, Nat.le_of_ble_eq_true rfl⟩ (h) (fun z1 I1 J1 q1 => ?_)
  obtain q1 := q1
  show Ev X k_L_smallest (7, [some (vr 0), some (vi a1), some (vr 145), none], [vi z1, vi 0, vr 145]) (MS I1 J1 cc ss) _
  have hp := q1
  refine ev_n (fr' := (8, [some (vr 0), some (vi a1), some (vr 145), none], [vl z1, vi 0, vr 145])) (S' := MS I1 J1 cc ss) 1 rfl ?_
  refine ev_lasN (j := 0) rfl rfl (by omega) (by omega) ?_
  show Ev X k_L_smallest (9, [some (vr 0), some (vi a1), some (vr 145), none], []) (MS I1 (up2 J1 145 0 z1) cc ss) _
  refine ev_n (fr' := (16, [some (vr 0), some (vi a1), some (vr 145), none], [vi 0])) (S' := MS I1 (up2 J1 145 0 z1) cc ss) 2 rfl ?_
  refine ev_r rfl rfl rfl ?_
  exact ⟨_, _, rfl, rfl, _, _, rfl, hp⟩
theorem wx_smallest_2 (X : AX) (I J : Nat → Nat → Int) (cc ss : Nat) (a1 : Int) (h : Ev X k_X8_smallest (0, [some (vr 0), some (vi a1), none, none, none], []) (MS I J cc ss) (fun o T => o = .inr 2 ∧ T = MS I J (cc + 1) (ss + 6))) : Ev X k_L_smallest (0, [some (vr 0), some (vi a1), some (vr 145), none], []) (MS I J cc ss) (fun o T => o = .inl (some (vi 1)) ∧ T = MS I J (cc + 1) (ss + 6)) := by
  refine ev_n (fr' := (4, [some (vr 0), some (vi a1), some (vr 145), none], [vi a1, vr 0, vi 0, vr 145])) (S' := MS I J cc ss) 4 rfl ?_
  refine ev_ch rfl rfl rfl ⟨Nat.le_of_ble_eq_true rfl, Nat.le_of_ble_eq_true rfl⟩ (h) rfl ?_
  show Ev X k_L_smallest (12, [some (vr 0), some (vi a1), some (vr 145), none], [vj]) (MS I J (cc + 1) (ss + 6)) _
  refine ev_n (fr' := (14, [some (vr 0), some (vi a1), some (vr 145), some (vj)], [vi 1])) (S' := MS I J (cc + 1) (ss + 6)) 2 rfl ?_
  refine ev_r rfl rfl rfl ?_
  exact ⟨rfl, rfl⟩
theorem wl_extreme (X : AX) (I J : Nat → Nat → Int) (cc ss : Nat) (a1 a2 : Int) {P : Int → F2 → F2 → Prop} (h : Ev X k_X8_extreme (0, [some (vr 0), some (vi a1), some (vi a2), none, none, none, none], []) (MS I J cc ss) (PZ cc ss P)) : Ev X k_L_extreme (0, [some (vr 0), some (vi a1), some (vi a2), some (vr 145), none], []) (MS I J cc ss) (PWr cc ss P) := by
  refine ev_n (fr' := (5, [some (vr 0), some (vi a1), some (vi a2), some (vr 145), none], [vi a2, vi a1, vr 0, vi 0, vr 145])) (S' := MS I J cc ss) 5 rfl ?_
  refine ev_cz rfl rfl rfl ⟨Nat.le_of_ble_eq_true rfl, Nat.le_of_ble_eq_true rfl⟩ (h) (fun z1 I1 J1 q1 => ?_)
  obtain q1 := q1
  show Ev X k_L_extreme (8, [some (vr 0), some (vi a1), some (vi a2), some (vr 145), none], [vi z1, vi 0, vr 145]) (MS I1 J1 cc ss) _
  have hp := q1
  refine ev_n (fr' := (9, [some (vr 0), some (vi a1), some (vi a2), some (vr 145), none], [vl z1, vi 0, vr 145])) (S' := MS I1 J1 cc ss) 1 rfl ?_
  refine ev_lasN (j := 0) rfl rfl (by omega) (by omega) ?_
  show Ev X k_L_extreme (10, [some (vr 0), some (vi a1), some (vi a2), some (vr 145), none], []) (MS I1 (up2 J1 145 0 z1) cc ss) _
  refine ev_n (fr' := (22, [some (vr 0), some (vi a1), some (vi a2), some (vr 145), none], [vi 0])) (S' := MS I1 (up2 J1 145 0 z1) cc ss) 2 rfl ?_
  refine ev_r rfl rfl rfl ?_
  exact ⟨_, _, rfl, rfl, _, _, rfl, hp⟩
theorem wx_extreme_2 (X : AX) (I J : Nat → Nat → Int) (cc ss : Nat) (a1 a2 : Int) (h : Ev X k_X8_extreme (0, [some (vr 0), some (vi a1), some (vi a2), none, none, none, none], []) (MS I J cc ss) (fun o T => o = .inr 2 ∧ T = MS I J (cc + 1) (ss + 6))) : Ev X k_L_extreme (0, [some (vr 0), some (vi a1), some (vi a2), some (vr 145), none], []) (MS I J cc ss) (fun o T => o = .inl (some (vi 1)) ∧ T = MS I J (cc + 1) (ss + 6)) := by
  refine ev_n (fr' := (5, [some (vr 0), some (vi a1), some (vi a2), some (vr 145), none], [vi a2, vi a1, vr 0, vi 0, vr 145])) (S' := MS I J cc ss) 5 rfl ?_
  refine ev_ch rfl rfl rfl ⟨Nat.le_of_ble_eq_true rfl, Nat.le_of_ble_eq_true rfl⟩ (h) rfl ?_
  show Ev X k_L_extreme (13, [some (vr 0), some (vi a1), some (vi a2), some (vr 145), none], [vj]) (MS I J (cc + 1) (ss + 6)) _
  refine ev_n (fr' := (16, [some (vr 0), some (vi a1), some (vi a2), some (vr 145), some (vj)], [vi 1])) (S' := MS I J (cc + 1) (ss + 6)) 2 rfl ?_
  refine ev_r rfl rfl rfl ?_
  exact ⟨rfl, rfl⟩
theorem wx_extreme_3 (X : AX) (I J : Nat → Nat → Int) (cc ss : Nat) (a1 a2 : Int) (h : Ev X k_X8_extreme (0, [some (vr 0), some (vi a1), some (vi a2), none, none, none, none], []) (MS I J cc ss) (fun o T => o = .inr 3 ∧ T = MS I J (cc + 1) (ss + 6))) : Ev X k_L_extreme (0, [some (vr 0), some (vi a1), some (vi a2), some (vr 145), none], []) (MS I J cc ss) (fun o T => o = .inl (some (vi 2)) ∧ T = MS I J (cc + 1) (ss + 6)) := by
  refine ev_n (fr' := (5, [some (vr 0), some (vi a1), some (vi a2), some (vr 145), none], [vi a2, vi a1, vr 0, vi 0, vr 145])) (S' := MS I J cc ss) 5 rfl ?_
  refine ev_ch rfl rfl rfl ⟨Nat.le_of_ble_eq_true rfl, Nat.le_of_ble_eq_true rfl⟩ (h) rfl ?_
  show Ev X k_L_extreme (17, [some (vr 0), some (vi a1), some (vi a2), some (vr 145), none], [vj]) (MS I J (cc + 1) (ss + 6)) _
  refine ev_n (fr' := (20, [some (vr 0), some (vi a1), some (vi a2), some (vr 145), some (vj)], [vi 2])) (S' := MS I J (cc + 1) (ss + 6)) 2 rfl ?_
  refine ev_r rfl rfl rfl ?_
  exact ⟨rfl, rfl⟩
theorem wl_bestExtra (X : AX) (I J : Nat → Nat → Int) (cc ss : Nat) (a1 : Int) {P : Int → F2 → F2 → Prop} (h : Ev X k_X8_bestExtra (0, [some (vr 0), some (vi a1), none, none, none, none, none, none, none, none, none, none], []) (MS I J cc ss) (PZ cc ss P)) : Ev X k_L_bestExtra (0, [some (vr 0), some (vi a1), some (vr 145), none], []) (MS I J cc ss) (PWr cc ss P) := by
  refine ev_n (fr' := (4, [some (vr 0), some (vi a1), some (vr 145), none], [vi a1, vr 0, vi 0, vr 145])) (S' := MS I J cc ss) 4 rfl ?_
  refine ev_cz rfl rfl rfl ⟨Nat.le_of_ble_eq_true rfl, Nat.le_of_ble_eq_true rfl⟩ (h) (fun z1 I1 J1 q1 => ?_)
  obtain q1 := q1
  show Ev X k_L_bestExtra (7, [some (vr 0), some (vi a1), some (vr 145), none], [vi z1, vi 0, vr 145]) (MS I1 J1 cc ss) _
  have hp := q1
  refine ev_n (fr' := (8, [some (vr 0), some (vi a1), some (vr 145), none], [vl z1, vi 0, vr 145])) (S' := MS I1 J1 cc ss) 1 rfl ?_
  refine ev_lasN (j := 0) rfl rfl (by omega) (by omega) ?_
  show Ev X k_L_bestExtra (9, [some (vr 0), some (vi a1), some (vr 145), none], []) (MS I1 (up2 J1 145 0 z1) cc ss) _
  refine ev_n (fr' := (19, [some (vr 0), some (vi a1), some (vr 145), none], [vi 0])) (S' := MS I1 (up2 J1 145 0 z1) cc ss) 2 rfl ?_
  refine ev_r rfl rfl rfl ?_
  exact ⟨_, _, rfl, rfl, _, _, rfl, hp⟩
theorem wx_bestExtra_2 (X : AX) (I J : Nat → Nat → Int) (cc ss : Nat) (a1 : Int) (h : Ev X k_X8_bestExtra (0, [some (vr 0), some (vi a1), none, none, none, none, none, none, none, none, none, none], []) (MS I J cc ss) (fun o T => o = .inr 2 ∧ T = MS I J (cc + 1) (ss + 6))) : Ev X k_L_bestExtra (0, [some (vr 0), some (vi a1), some (vr 145), none], []) (MS I J cc ss) (fun o T => o = .inl (some (vi 1)) ∧ T = MS I J (cc + 1) (ss + 6)) := by
  refine ev_n (fr' := (4, [some (vr 0), some (vi a1), some (vr 145), none], [vi a1, vr 0, vi 0, vr 145])) (S' := MS I J cc ss) 4 rfl ?_
  refine ev_ch rfl rfl rfl ⟨Nat.le_of_ble_eq_true rfl, Nat.le_of_ble_eq_true rfl⟩ (h) rfl ?_
  show Ev X k_L_bestExtra (12, [some (vr 0), some (vi a1), some (vr 145), none], [vj]) (MS I J (cc + 1) (ss + 6)) _
  refine ev_n (fr' := (14, [some (vr 0), some (vi a1), some (vr 145), some (vj)], [vi 1])) (S' := MS I J (cc + 1) (ss + 6)) 2 rfl ?_
  refine ev_r rfl rfl rfl ?_
  exact ⟨rfl, rfl⟩
theorem wx_bestExtra_3 (X : AX) (I J : Nat → Nat → Int) (cc ss : Nat) (a1 : Int) (h : Ev X k_X8_bestExtra (0, [some (vr 0), some (vi a1), none, none, none, none, none, none, none, none, none, none], []) (MS I J cc ss) (fun o T => o = .inr 3 ∧ T = MS I J (cc + 1) (ss + 6))) : Ev X k_L_bestExtra (0, [some (vr 0), some (vi a1), some (vr 145), none], []) (MS I J cc ss) (fun o T => o = .inl (some (vi 2)) ∧ T = MS I J (cc + 1) (ss + 6)) := by
  refine ev_n (fr' := (4, [some (vr 0), some (vi a1), some (vr 145), none], [vi a1, vr 0, vi 0, vr 145])) (S' := MS I J cc ss) 4 rfl ?_
  refine ev_ch rfl rfl rfl ⟨Nat.le_of_ble_eq_true rfl, Nat.le_of_ble_eq_true rfl⟩ (h) rfl ?_
  show Ev X k_L_bestExtra (15, [some (vr 0), some (vi a1), some (vr 145), none], [vj]) (MS I J (cc + 1) (ss + 6)) _
  refine ev_n (fr' := (17, [some (vr 0), some (vi a1), some (vr 145), some (vj)], [vi 2])) (S' := MS I J (cc + 1) (ss + 6)) 2 rfl ?_
  refine ev_r rfl rfl rfl ?_
  exact ⟨rfl, rfl⟩
theorem wl_indifferent (X : AX) (I J : Nat → Nat → Int) (cc ss : Nat) (a1 a2 : Int) {P : Int → F2 → F2 → Prop} (h : Ev X k_X8_indifferent (0, [some (vr 0), some (vi a1), some (vi a2), none, none], []) (MS I J cc ss) (PZ cc ss P)) : Ev X k_L_indifferent (0, [some (vr 0), some (vi a1), some (vi a2), some (vr 145), none], []) (MS I J cc ss) (PWr cc ss P) := by
  refine ev_n (fr' := (5, [some (vr 0), some (vi a1), some (vi a2), some (vr 145), none], [vi a2, vi a1, vr 0, vi 0, vr 145])) (S' := MS I J cc ss) 5 rfl ?_
  refine ev_cz rfl rfl rfl ⟨Nat.le_of_ble_eq_true rfl, Nat.le_of_ble_eq_true rfl⟩ (h) (fun z1 I1 J1 q1 => ?_)
  obtain q1 := q1
  show Ev X k_L_indifferent (8, [some (vr 0), some (vi a1), some (vi a2), some (vr 145), none], [vi z1, vi 0, vr 145]) (MS I1 J1 cc ss) _
  have hp := q1
  refine ev_n (fr' := (9, [some (vr 0), some (vi a1), some (vi a2), some (vr 145), none], [vl z1, vi 0, vr 145])) (S' := MS I1 J1 cc ss) 1 rfl ?_
  refine ev_lasN (j := 0) rfl rfl (by omega) (by omega) ?_
  show Ev X k_L_indifferent (10, [some (vr 0), some (vi a1), some (vi a2), some (vr 145), none], []) (MS I1 (up2 J1 145 0 z1) cc ss) _
  refine ev_n (fr' := (18, [some (vr 0), some (vi a1), some (vi a2), some (vr 145), none], [vi 0])) (S' := MS I1 (up2 J1 145 0 z1) cc ss) 2 rfl ?_
  refine ev_r rfl rfl rfl ?_
  exact ⟨_, _, rfl, rfl, _, _, rfl, hp⟩
theorem wx_indifferent_2 (X : AX) (I J : Nat → Nat → Int) (cc ss : Nat) (a1 a2 : Int) (h : Ev X k_X8_indifferent (0, [some (vr 0), some (vi a1), some (vi a2), none, none], []) (MS I J cc ss) (fun o T => o = .inr 2 ∧ T = MS I J (cc + 1) (ss + 6))) : Ev X k_L_indifferent (0, [some (vr 0), some (vi a1), some (vi a2), some (vr 145), none], []) (MS I J cc ss) (fun o T => o = .inl (some (vi 1)) ∧ T = MS I J (cc + 1) (ss + 6)) := by
  refine ev_n (fr' := (5, [some (vr 0), some (vi a1), some (vi a2), some (vr 145), none], [vi a2, vi a1, vr 0, vi 0, vr 145])) (S' := MS I J cc ss) 5 rfl ?_
  refine ev_ch rfl rfl rfl ⟨Nat.le_of_ble_eq_true rfl, Nat.le_of_ble_eq_true rfl⟩ (h) rfl ?_
  show Ev X k_L_indifferent (13, [some (vr 0), some (vi a1), some (vi a2), some (vr 145), none], [vj]) (MS I J (cc + 1) (ss + 6)) _
  refine ev_n (fr' := (16, [some (vr 0), some (vi a1), some (vi a2), some (vr 145), some (vj)], [vi 1])) (S' := MS I J (cc + 1) (ss + 6)) 2 rfl ?_
  refine ev_r rfl rfl rfl ?_
  exact ⟨rfl, rfl⟩
theorem wl_writeIcon (X : AX) (I J : Nat → Nat → Int) (cc ss : Nat) (a1 a2 : Int) {P : Int → F2 → F2 → Prop} (h : Ev X k_X8_writeIcon (0, [some (vr 0), some (vi a1), some (vi a2)], []) (MS I J cc ss) (PZ cc ss P)) : Ev X k_L_writeIcon (0, [some (vr 0), some (vi a1), some (vi a2), some (vr 145), none], []) (MS I J cc ss) (PWr cc ss P) := by
  refine ev_n (fr' := (5, [some (vr 0), some (vi a1), some (vi a2), some (vr 145), none], [vi a2, vi a1, vr 0, vi 0, vr 145])) (S' := MS I J cc ss) 5 rfl ?_
  refine ev_cz rfl rfl rfl ⟨Nat.le_of_ble_eq_true rfl, Nat.le_of_ble_eq_true rfl⟩ (h) (fun z1 I1 J1 q1 => ?_)
  obtain q1 := q1
  show Ev X k_L_writeIcon (8, [some (vr 0), some (vi a1), some (vi a2), some (vr 145), none], [vi z1, vi 0, vr 145]) (MS I1 J1 cc ss) _
  have hp := q1
  refine ev_n (fr' := (9, [some (vr 0), some (vi a1), some (vi a2), some (vr 145), none], [vl z1, vi 0, vr 145])) (S' := MS I1 J1 cc ss) 1 rfl ?_
  refine ev_lasN (j := 0) rfl rfl (by omega) (by omega) ?_
  show Ev X k_L_writeIcon (10, [some (vr 0), some (vi a1), some (vi a2), some (vr 145), none], []) (MS I1 (up2 J1 145 0 z1) cc ss) _
  refine ev_n (fr' := (18, [some (vr 0), some (vi a1), some (vi a2), some (vr 145), none], [vi 0])) (S' := MS I1 (up2 J1 145 0 z1) cc ss) 2 rfl ?_
  refine ev_r rfl rfl rfl ?_
  exact ⟨_, _, rfl, rfl, _, _, rfl, hp⟩
theorem wx_writeIcon_2 (X : AX) (I J : Nat → Nat → Int) (cc ss : Nat) (a1 a2 : Int) (h : Ev X k_X8_writeIcon (0, [some (vr 0), some (vi a1), some (vi a2)], []) (MS I J cc ss) (fun o T => o = .inr 2 ∧ T = MS I J (cc + 1) (ss + 6))) : Ev X k_L_writeIcon (0, [some (vr 0), some (vi a1), some (vi a2), some (vr 145), none], []) (MS I J cc ss) (fun o T => o = .inl (some (vi 1)) ∧ T = MS I J (cc + 1) (ss + 6)) := by
  refine ev_n (fr' := (5, [some (vr 0), some (vi a1), some (vi a2), some (vr 145), none], [vi a2, vi a1, vr 0, vi 0, vr 145])) (S' := MS I J cc ss) 5 rfl ?_
  refine ev_ch rfl rfl rfl ⟨Nat.le_of_ble_eq_true rfl, Nat.le_of_ble_eq_true rfl⟩ (h) rfl ?_
  show Ev X k_L_writeIcon (13, [some (vr 0), some (vi a1), some (vi a2), some (vr 145), none], [vj]) (MS I J (cc + 1) (ss + 6)) _
  refine ev_n (fr' := (16, [some (vr 0), some (vi a1), some (vi a2), some (vr 145), some (vj)], [vi 1])) (S' := MS I J (cc + 1) (ss + 6)) 2 rfl ?_
  refine ev_r rfl rfl rfl ?_
  exact ⟨rfl, rfl⟩
theorem wl_writtenByte (X : AX) (I J : Nat → Nat → Int) (cc ss : Nat) (a1 : Int) {P : Int → F2 → F2 → Prop} (h : Ev X k_X8_writtenByte (0, [some (vr 0), some (vi a1)], []) (MS I J cc ss) (PZ cc ss P)) : Ev X k_L_writtenByte (0, [some (vr 0), some (vi a1), some (vr 145), none], []) (MS I J cc ss) (PWr cc ss P) := by
  refine ev_n (fr' := (4, [some (vr 0), some (vi a1), some (vr 145), none], [vi a1, vr 0, vi 0, vr 145])) (S' := MS I J cc ss) 4 rfl ?_
  refine ev_cz rfl rfl rfl ⟨Nat.le_of_ble_eq_true rfl, Nat.le_of_ble_eq_true rfl⟩ (h) (fun z1 I1 J1 q1 => ?_)
  obtain q1 := q1
  show Ev X k_L_writtenByte (7, [some (vr 0), some (vi a1), some (vr 145), none], [vi z1, vi 0, vr 145]) (MS I1 J1 cc ss) _
  have hp := q1
  refine ev_n (fr' := (8, [some (vr 0), some (vi a1), some (vr 145), none], [vl z1, vi 0, vr 145])) (S' := MS I1 J1 cc ss) 1 rfl ?_
  refine ev_lasN (j := 0) rfl rfl (by omega) (by omega) ?_
  show Ev X k_L_writtenByte (9, [some (vr 0), some (vi a1), some (vr 145), none], []) (MS I1 (up2 J1 145 0 z1) cc ss) _
  refine ev_n (fr' := (16, [some (vr 0), some (vi a1), some (vr 145), none], [vi 0])) (S' := MS I1 (up2 J1 145 0 z1) cc ss) 2 rfl ?_
  refine ev_r rfl rfl rfl ?_
  exact ⟨_, _, rfl, rfl, _, _, rfl, hp⟩
theorem wx_writtenByte_2 (X : AX) (I J : Nat → Nat → Int) (cc ss : Nat) (a1 : Int) (h : Ev X k_X8_writtenByte (0, [some (vr 0), some (vi a1)], []) (MS I J cc ss) (fun o T => o = .inr 2 ∧ T = MS I J (cc + 1) (ss + 6))) : Ev X k_L_writtenByte (0, [some (vr 0), some (vi a1), some (vr 145), none], []) (MS I J cc ss) (fun o T => o = .inl (some (vi 1)) ∧ T = MS I J (cc + 1) (ss + 6)) := by
  refine ev_n (fr' := (4, [some (vr 0), some (vi a1), some (vr 145), none], [vi a1, vr 0, vi 0, vr 145])) (S' := MS I J cc ss) 4 rfl ?_
  refine ev_ch rfl rfl rfl ⟨Nat.le_of_ble_eq_true rfl, Nat.le_of_ble_eq_true rfl⟩ (h) rfl ?_
  show Ev X k_L_writtenByte (12, [some (vr 0), some (vi a1), some (vr 145), none], [vj]) (MS I J (cc + 1) (ss + 6)) _
  refine ev_n (fr' := (14, [some (vr 0), some (vi a1), some (vr 145), some (vj)], [vi 1])) (S' := MS I J (cc + 1) (ss + 6)) 2 rfl ?_
  refine ev_r rfl rfl rfl ?_
  exact ⟨rfl, rfl⟩
theorem wl_undo (X : AX) (I J : Nat → Nat → Int) (cc ss : Nat) {P : Int → F2 → F2 → Prop} (h : Ev X k_X8_undo (0, [some (vr 0)], []) (MS I J cc ss) (PZ cc ss P)) : Ev X k_L_undo (0, [some (vr 0), some (vr 145), none], []) (MS I J cc ss) (PWr cc ss P) := by
  refine ev_n (fr' := (3, [some (vr 0), some (vr 145), none], [vr 0, vi 0, vr 145])) (S' := MS I J cc ss) 3 rfl ?_
  refine ev_cz rfl rfl rfl ⟨Nat.le_of_ble_eq_true rfl, Nat.le_of_ble_eq_true rfl⟩ (h) (fun z1 I1 J1 q1 => ?_)
  obtain q1 := q1
  show Ev X k_L_undo (6, [some (vr 0), some (vr 145), none], [vi z1, vi 0, vr 145]) (MS I1 J1 cc ss) _
  have hp := q1
  refine ev_n (fr' := (7, [some (vr 0), some (vr 145), none], [vl z1, vi 0, vr 145])) (S' := MS I1 J1 cc ss) 1 rfl ?_
  refine ev_lasN (j := 0) rfl rfl (by omega) (by omega) ?_
  show Ev X k_L_undo (8, [some (vr 0), some (vr 145), none], []) (MS I1 (up2 J1 145 0 z1) cc ss) _
  refine ev_n (fr' := (15, [some (vr 0), some (vr 145), none], [vi 0])) (S' := MS I1 (up2 J1 145 0 z1) cc ss) 2 rfl ?_
  refine ev_r rfl rfl rfl ?_
  exact ⟨_, _, rfl, rfl, _, _, rfl, hp⟩
theorem wx_undo_0 (X : AX) (I J : Nat → Nat → Int) (cc ss : Nat) (h : Ev X k_X8_undo (0, [some (vr 0)], []) (MS I J cc ss) (fun o T => o = .inr 0 ∧ T = MS I J (cc + 1) (ss + 6))) : Ev X k_L_undo (0, [some (vr 0), some (vr 145), none], []) (MS I J cc ss) (fun o T => o = .inl (some (vi 1)) ∧ T = MS I J (cc + 1) (ss + 6)) := by
  refine ev_n (fr' := (3, [some (vr 0), some (vr 145), none], [vr 0, vi 0, vr 145])) (S' := MS I J cc ss) 3 rfl ?_
  refine ev_ch rfl rfl rfl ⟨Nat.le_of_ble_eq_true rfl, Nat.le_of_ble_eq_true rfl⟩ (h) rfl ?_
  show Ev X k_L_undo (11, [some (vr 0), some (vr 145), none], [vj]) (MS I J (cc + 1) (ss + 6)) _
  refine ev_n (fr' := (13, [some (vr 0), some (vr 145), some (vj)], [vi 1])) (S' := MS I J (cc + 1) (ss + 6)) 2 rfl ?_
  refine ev_r rfl rfl rfl ?_
  exact ⟨rfl, rfl⟩
