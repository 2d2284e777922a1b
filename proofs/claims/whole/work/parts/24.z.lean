/-! RUNS THAT DON'T LOOK OUTSIDE: for the constructors, by the kernel. -/
def lowB (st : List AV) : Bool := match st with
  | .inr (.inr (.inl (some a))) :: _ => decide (a < 1000000)
  | .inl _ :: .inr (.inr (.inl (some a))) :: _ => decide (a < 1000000)
  | _ => true
def gdB (I : Instr) (st : List AV) : Bool := match I with
  | .iaload | .baload | .arraylength => lowB st
  | _ => true
def X0 : AX := (0, fun _ => 0)
theorem rdA_low {X : AX} {t : Nat} {S : AS} {a : Nat} {i : Int} (h : a < 1000000) : rdA X t S a i = rdA X0 t S a i := by
  unfold rdA
  have h1 : ¬ a = xScr := by unfold xScr; omega
  split
  · rfl
  · have h2 : ∀ Y : AX, ¬ (t = 1 ∧ a = xScr ∧ 0 ≤ i ∧ i < (Y.1 : Int)) := fun Y q => h1 q.2.1
    rw [if_neg (h2 X), if_neg (h2 X0)]
theorem lnA_low {X : AX} {S : AS} {a : Nat} (h : a < 1000000) : lnA X S a = lnA X0 S a := by
  unfold lnA
  have h1 : ¬ a = xScr := by unfold xScr; omega
  split
  · rfl
  · rw [if_neg h1, if_neg h1]
theorem stp_low {X : AX} {I : Instr} {ax : Nat × Nat × Nat} {L : ALs} {st : List AV} {S : AS} (h : gdB I st = true) : stp X I ax L st S = stp X0 I ax L st S := by
  cases I <;> first
    | rfl
    | (match st, h with
       | .inl i :: .inr (.inr (.inl (some a))) :: r, h =>
         have ha : a < 1000000 := of_decide_eq_true h
         simp only [stp, rdA_low (X := X) ha]
       | .inr (.inr (.inl (some a))) :: r, h =>
         have ha : a < 1000000 := of_decide_eq_true h
         first | rfl | simp only [stp, lnA_low (X := X) ha]
       | [], _ => rfl
       | .inl _ :: [], _ => rfl
       | .inl _ :: .inl _ :: _, _ => rfl
       | .inl _ :: .inr (.inl _) :: _, _ => rfl
       | .inl _ :: .inr (.inr (.inl none)) :: _, _ => rfl
       | .inl _ :: .inr (.inr (.inr _)) :: _, _ => rfl
       | .inr (.inl _) :: _, _ => rfl
       | .inr (.inr (.inl none)) :: _, _ => rfl
       | .inr (.inr (.inr _)) :: _, _ => rfl)
noncomputable def runZ : Nat → Nat → AF → AS → Option ((Option AV ⊕ Nat) × AS)
  | 0, _, _, _ => none
  | n + 1, k, fr, S => match cdAt k fr.1 with
    | none => none
    | some (I, len, ax) => if gdB I fr.2.2 = true then (match stp X0 I ax fr.2.1 fr.2.2 S with
      | some (ls', st', S') => runZ n k (fr.1 + len, ls', st') S'
      | none => match ctl I len ax fr S with
        | none => none
        | some (.inl (fr', S')) => runZ n k fr' S'
        | some (.inr (.inr (o, S'))) => some (o, S')
        | some (.inr (.inl (j, as, rest))) =>
          if (entL as).length ≤ mL j ∧ (rest.map acat).sum ≤ 8 then
            match runZ n j (0, entL as ++ List.replicate (mL j - (entL as).length) none, []) S with
            | some (.inl v, S') => runZ n k (fr.1 + len, fr.2.1, v.toList ++ rest) S'
            | _ => none
          else none) else none
theorem runZ_run (X : AX) : ∀ (n k : Nat) (fr : AF) (S : AS) (r : (Option AV ⊕ Nat) × AS), runZ n k fr S = some r → run X n k fr S = some r := by
  intro n
  induction n with
  | zero => intro k fr S r h; cases h
  | succ n ih =>
    intro k fr S r h
    unfold runZ at h
    unfold run
    split at h
    · cases h
    · next I len ax hcd =>
      rw [hcd]
      simp only
      split at h
      · next hg =>
        rw [stp_low (X := X) hg]
        split at h
        · next hst => rw [hst]; exact ih _ _ _ _ h
        · next hst =>
          rw [hst]
          simp only
          split at h
          · cases h
          · next hc => rw [hc]; exact ih _ _ _ _ h
          · next hc => rw [hc]; exact h
          · next hc =>
            rw [hc]
            simp only
            split at h
            · next hen =>
              rw [if_pos hen]
              split at h
              · next v S' hr => rw [ih _ _ _ _ hr]; exact ih _ _ _ _ h
              · cases h
            · cases h
      · cases h
