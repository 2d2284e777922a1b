/-! REFERENCES stand only where the layout has places for them. -/
def Rb (S : AS) : Prop := ∀ (a k : Nat), gr S a k ≠ none → ∃ q, (lay S)[a]? = some q ∧ ((q.1 = 0 ∧ k < 23) ∨ (q.1 = 4 ∧ k < q.2))
theorem FT_len : ∀ ci k t, (FT.getD ci [])[k]? = some t → k < 23 := by
  intro ci k t h
  have h1 : (FT.all fun l => decide (l.length ≤ 23)) = true := by decide +kernel
  rcases Nat.lt_or_ge ci FT.length with hc | hc
  · have h2 := of_decide_eq_true (List.all_eq_true.mp h1 _ (List.getElem_mem hc))
    rw [List.getD_eq_getElem?_getD, List.getElem?_eq_getElem hc] at h
    have h3 := (List.getElem?_eq_some_iff.mp h).1
    exact Nat.lt_of_lt_of_le h3 h2
  · rw [List.getD_eq_getElem?_getD, List.getElem?_eq_none hc] at h
    cases h
theorem Rb_mk {S : AS} {q : Nat × Nat} {n : Nat} (h : Rb S) : Rb (mk S q n) := by
  intro a k hk
  have hk2 : (if a = (lay S).length then none else gr S a k) ≠ none := hk
  by_cases ha : a = (lay S).length
  · rw [if_pos ha] at hk2; exact absurd rfl hk2
  · rw [if_neg ha] at hk2
    obtain ⟨p, h1, h2⟩ := h a k hk2
    exact ⟨p, by show (lay S ++ [q])[a]? = some p; rw [List.getElem?_append_left (List.getElem?_eq_some_iff.mp h1).1]; exact h1, h2⟩
theorem Rb_sr {S : AS} {a k : Nat} {v : Option Nat} {q : Nat × Nat} (h : Rb S) (hq : (lay S)[a]? = some q) (hk : (q.1 = 0 ∧ k < 23) ∨ (q.1 = 4 ∧ k < q.2)) : Rb (sr S a k v) := by
  intro b j hj
  have hj2 : (up2 S.2.1.2 a k v) b j ≠ none := hj
  unfold up2 at hj2
  by_cases hb : b = a
  · rw [if_pos hb] at hj2
    by_cases hjk : j = k
    · subst hb; subst hjk; exact ⟨q, hq, hk⟩
    · rw [if_neg hjk] at hj2; exact h b j hj2
  · rw [if_neg hb] at hj2; exact h b j hj2
theorem Rb_si {S : AS} {a k : Nat} {v : Int} (h : Rb S) : Rb (si S a k v) := h
theorem Rb_sl {S : AS} {a k : Nat} {v : Int} (h : Rb S) : Rb (sl S a k v) := h
theorem stp_Rb {X : AX} {I : Instr} {ax : Nat × Nat × Nat} {L L' : ALs} {st st' : List AV} {S S' : AS} (hr : Rb S) (h : stp X I ax L st S = some (L', st', S')) : Rb S' := by
  unfold stp at h
  split at h
  all_goals (try (split at h))
  all_goals (try (split at h))
  all_goals (try (split at h))
  all_goals (try (split at h))
  all_goals first
    | (cases h; done)
    | (cases h; exact hr)
    | (cases h; exact Rb_mk hr)
    | (obtain ⟨x, -, e⟩ := Option.map_eq_some_iff.mp h; cases e; exact hr)
    | (cases h; next hq _ _ _ hf _ => exact Rb_sr hr hq (Or.inl ⟨rfl, FT_len _ _ _ hf⟩))
    | skip
  next hq hc =>
    cases h
    exact Rb_sr hr hq (Or.inr ⟨hc.1, by have := hc.2.1; have := hc.2.2.1; show _ < _; omega⟩)
theorem ctl_Rb {I : Instr} {len : Nat} {ax : Nat × Nat × Nat} {fr fr' : AF} {S S' : AS} (hr : Rb S) (h : ctl I len ax fr S = some (.inl (fr', S'))) : Rb S' := by
  have e := ctl_mono h
  intro a k hk
  have h1 : gr S' a k = gr S a k := by unfold gr; rw [e]
  have h2 : lay S' = lay S := by unfold lay; rw [e]
  rw [h1] at hk
  rw [h2]
  exact hr a k hk
theorem run_Rb {X : AX} : ∀ (n k : Nat) (fr : AF) (S : AS) (o : Option AV ⊕ Nat) (S1 : AS), Rb S → run X n k fr S = some (o, S1) → Rb S1 := by
  intro n
  induction n with
  | zero => intro k fr S o S1 hr h; cases h
  | succ n ih =>
    intro k fr S o S1 hr h
    unfold run at h
    split at h
    · cases h
    · split at h
      · next hst => exact ih _ _ _ _ _ (stp_Rb hr hst) h
      · split at h
        · cases h
        · next hc => exact ih _ _ _ _ _ (ctl_Rb hr hc) h
        · next o' S' hc =>
          cases h
          rcases ctl_group hc with ⟨-, y, e⟩ | ⟨hg, y, e⟩ | ⟨-, -, -, e⟩ | ⟨-, ⟨y, e⟩, -⟩ | ⟨-, y, e⟩
          · cases e
          · rw [ctl_ret hg hc]; exact hr
          · cases e; exact hr
          · cases e
          · cases e
        · split at h
          · split at h
            · cases h
            · next hr2 => exact ih _ _ _ _ _ (ih _ _ _ _ _ hr hr2) h
            · next hr2 =>
              have h3 := ih _ _ _ _ _ hr hr2
              split at h
              · exact ih _ _ _ _ _ h3 h
              · cases h; exact h3
          · cases h
