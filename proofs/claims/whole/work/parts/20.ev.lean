/-! RUNS, PURELY: rules for runs of the abstract machine. -/
def Ev (X : AX) (k : Nat) (fr : AF) (S : AS) (Q : (Option AV ⊕ Nat) → AS → Prop) : Prop := ∃ n o S', run X n k fr S = some (o, S') ∧ Q o S'
theorem run_more {X : AX} : ∀ (n : Nat) (k : Nat) (fr : AF) (S : AS) (r : (Option AV ⊕ Nat) × AS), run X n k fr S = some r → ∀ m, n ≤ m → run X m k fr S = some r := by
  intro n
  induction n with
  | zero => intro k fr S r h; cases h
  | succ n ih =>
    intro k fr S r h m hm
    obtain ⟨m, rfl⟩ : ∃ m', m = m' + 1 := ⟨m - 1, by omega⟩
    have hm : n ≤ m := Nat.le_of_succ_le_succ hm
    unfold run at h ⊢
    split at h
    · cases h
    · split at h
      · exact ih _ _ _ _ h m hm
      · split at h
        · cases h
        · exact ih _ _ _ _ h m hm
        · exact h
        · split at h
          · next hen =>
            rw [if_pos hen]
            split at h
            · cases h
            · next v S' hr => rw [ih _ _ _ _ hr m hm]; exact ih _ _ _ _ h m hm
            · next x S' hr =>
              rw [ih _ _ _ _ hr m hm]
              simp only
              split at h
              · next hh => exact ih _ _ _ _ h m hm
              · next hh => exact h
          · cases h
/-- one step that is no call and no end -/
noncomputable def sp1 (X : AX) (k : Nat) (fr : AF) (S : AS) : Option (AF × AS) := match cdAt k fr.1 with
  | none => none
  | some (I, len, ax) => match stp X I ax fr.2.1 fr.2.2 S with
    | some (ls', st', S') => some ((fr.1 + len, ls', st'), S')
    | none => match ctl I len ax fr S with
      | some (.inl r) => some r
      | _ => none
noncomputable def sps (X : AX) (k : Nat) : Nat → AF → AS → Option (AF × AS)
  | 0, fr, S => some (fr, S)
  | n + 1, fr, S => match sp1 X k fr S with
    | some (fr', S') => sps X k n fr' S'
    | none => none
theorem ev_1 {X : AX} {k : Nat} {fr fr' : AF} {S S' : AS} {Q : (Option AV ⊕ Nat) → AS → Prop} (h : sp1 X k fr S = some (fr', S')) (he : Ev X k fr' S' Q) : Ev X k fr S Q := by
  obtain ⟨n, o, S1, hr, hq⟩ := he
  refine ⟨n + 1, o, S1, ?_, hq⟩
  unfold sp1 at h
  unfold run
  split at h
  · cases h
  · next hcd =>
    try rw [hcd]
    try simp only
    split at h
    · next hst => cases h; (try rw [hst]); exact hr
    · next hst =>
      try rw [hst]
      try simp only
      split at h
      · next hc => cases h; (try rw [hc]); exact hr
      · cases h
theorem ev_n {X : AX} {k : Nat} {Q : (Option AV ⊕ Nat) → AS → Prop} : ∀ (n : Nat) {fr fr' : AF} {S S' : AS}, sps X k n fr S = some (fr', S') → Ev X k fr' S' Q → Ev X k fr S Q
  | 0, _, _, _, _, h, he => by cases h; exact he
  | n + 1, fr, fr', S, S', h, he => by
    unfold sps at h
    split at h
    · next fr1 S1 h1 => exact ev_1 h1 (ev_n n h he)
    · cases h
/-- the end -/
theorem ev_r {X : AX} {k pc : Nat} {L : ALs} {st : List AV} {S S' : AS} {I : Instr} {len : Nat} {ax : Nat × Nat × Nat} {o : Option AV ⊕ Nat} {Q : (Option AV ⊕ Nat) → AS → Prop} (hcd : cdAt k pc = some (I, len, ax)) (hst : stp X I ax L st S = none) (hc : ctl I len ax (pc, L, st) S = some (.inr (.inr (o, S')))) (hq : Q o S') : Ev X k (pc, L, st) S Q := by
  refine ⟨1, o, S', ?_, hq⟩
  unfold run
  rw [hcd]
  simp only
  rw [hst]
  simp only
  rw [hc]
/-- a call -/
theorem ev_c {X : AX} {k pc : Nat} {L : ALs} {st : List AV} {S : AS} {I : Instr} {len : Nat} {ax : Nat × Nat × Nat} {j : Nat} {as rest : List AV} {Q Q1 : (Option AV ⊕ Nat) → AS → Prop} (hcd : cdAt k pc = some (I, len, ax)) (hst : stp X I ax L st S = none) (hc : ctl I len ax (pc, L, st) S = some (.inr (.inl (j, as, rest))))
    (hen : (entL as).length ≤ mL j ∧ (rest.map acat).sum ≤ 8) (he : Ev X j (0, entL as ++ List.replicate (mL j - (entL as).length) none, []) S Q1)
    (hv : ∀ v S', Q1 (.inl v) S' → Ev X k (pc + len, L, v.toList ++ rest) S' Q) (hx : ∀ x S', Q1 (.inr x) S' → match hnd k pc x with
      | some h => Ev X k (h, L, [vj]) S' Q
      | none => Q (.inr x) S') : Ev X k (pc, L, st) S Q := by
  obtain ⟨n, o, S1, hr, hq⟩ := he
  match o, hr, hq with
  | .inl v, hr, hq =>
    obtain ⟨n2, o2, S2, hr2, hq2⟩ := hv v S1 hq
    refine ⟨max n n2 + 1, o2, S2, ?_, hq2⟩
    unfold run
    rw [hcd]
    simp only
    rw [hst]
    simp only
    rw [hc]
    simp only
    rw [if_pos hen, run_more _ _ _ _ _ hr _ (Nat.le_max_left _ _)]
    exact run_more _ _ _ _ _ hr2 _ (Nat.le_max_right _ _)
  | .inr x, hr, hq =>
    have h9 := hx x S1 hq
    split at h9
    · next h hh =>
      obtain ⟨n2, o2, S2, hr2, hq2⟩ := h9
      refine ⟨max n n2 + 1, o2, S2, ?_, hq2⟩
      unfold run
      rw [hcd]
      simp only
      rw [hst]
      simp only
      rw [hc]
      simp only
      rw [if_pos hen, run_more _ _ _ _ _ hr _ (Nat.le_max_left _ _)]
      simp only
      rw [hh]
      exact run_more _ _ _ _ _ hr2 _ (Nat.le_max_right _ _)
    · next hh =>
      refine ⟨n + 1, .inr x, S1, ?_, h9⟩
      unfold run
      rw [hcd]
      simp only
      rw [hst]
      simp only
      rw [hc]
      simp only
      rw [if_pos hen, hr]
      simp only
      rw [hh]
theorem Ev.mono {X : AX} {k : Nat} {fr : AF} {S : AS} {Q Q' : (Option AV ⊕ Nat) → AS → Prop} (h : Ev X k fr S Q) (hq : ∀ o S', Q o S' → Q' o S') : Ev X k fr S Q' := by
  obtain ⟨n, o, S1, h1, h2⟩ := h
  exact ⟨n, o, S1, h1, hq _ _ h2⟩
