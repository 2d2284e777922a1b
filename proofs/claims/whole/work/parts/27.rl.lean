/-! MORE RULES: arithmetic that stays in its range, arrays at natural places, booleans as conditions, calls. -/
section RL
variable {X : AX} {k pc : Nat} {L L' : ALs} {r : List AV} {S S' : AS} {ax : Nat × Nat × Nat} {Q : (Option AV ⊕ Nat) → AS → Prop} {x y z : Int}
theorem ev_add (hcd : cdAt k pc = some (.iadd, 1, ax)) (hz : x + y = z) (h0 : -2147483648 ≤ z) (h1 : z ≤ 2147483647) (he : Ev X k (pc + 1, L, vi z :: r) S Q) : Ev X k (pc, L, vi y :: vi x :: r) S Q := by
  refine ev_p (L' := L) (st' := vi z :: r) (S' := S) hcd ?_ he
  show some (L, vi (w32 (x + y)) :: r, S) = _
  rw [hz, w32_id ⟨h0, h1⟩]
theorem ev_sub (hcd : cdAt k pc = some (.isub, 1, ax)) (hz : x - y = z) (h0 : -2147483648 ≤ z) (h1 : z ≤ 2147483647) (he : Ev X k (pc + 1, L, vi z :: r) S Q) : Ev X k (pc, L, vi y :: vi x :: r) S Q := by
  refine ev_p (L' := L) (st' := vi z :: r) (S' := S) hcd ?_ he
  show some (L, vi (w32 (x - y)) :: r, S) = _
  rw [hz, w32_id ⟨h0, h1⟩]
theorem ev_mul (hcd : cdAt k pc = some (.imul, 1, ax)) (hz : x * y = z) (h0 : -2147483648 ≤ z) (h1 : z ≤ 2147483647) (he : Ev X k (pc + 1, L, vi z :: r) S Q) : Ev X k (pc, L, vi y :: vi x :: r) S Q := by
  refine ev_p (L' := L) (st' := vi z :: r) (S' := S) hcd ?_ he
  show some (L, vi (w32 (x * y)) :: r, S) = _
  rw [hz, w32_id ⟨h0, h1⟩]
theorem ev_neg (hcd : cdAt k pc = some (.ineg, 1, ax)) (hz : -x = z) (h0 : -2147483648 ≤ z) (h1 : z ≤ 2147483647) (he : Ev X k (pc + 1, L, vi z :: r) S Q) : Ev X k (pc, L, vi x :: r) S Q := by
  refine ev_p (L' := L) (st' := vi z :: r) (S' := S) hcd ?_ he
  show some (L, vi (w32 (-x)) :: r, S) = _
  rw [hz, w32_id ⟨h0, h1⟩]
theorem ev_l2i (hcd : cdAt k pc = some (.l2i, 1, ax)) (h0 : -2147483648 ≤ x) (h1 : x ≤ 2147483647) (he : Ev X k (pc + 1, L, vi x :: r) S Q) : Ev X k (pc, L, vl x :: r) S Q := by
  refine ev_p (L' := L) (st' := vi x :: r) (S' := S) hcd ?_ he
  show some (L, vi (w32 x) :: r, S) = _
  rw [w32_id ⟨h0, h1⟩]
theorem ev_ladd (hcd : cdAt k pc = some (.ladd, 1, ax)) (hz : x + y = z) (h0 : -9223372036854775808 ≤ z) (h1 : z ≤ 9223372036854775807) (he : Ev X k (pc + 1, L, vl z :: r) S Q) : Ev X k (pc, L, vl y :: vl x :: r) S Q := by
  refine ev_p (L' := L) (st' := vl z :: r) (S' := S) hcd ?_ he
  show some (L, vl (w64 (x + y)) :: r, S) = _
  rw [hz, w64_id ⟨h0, h1⟩]
theorem ev_lsub (hcd : cdAt k pc = some (.lsub, 1, ax)) (hz : x - y = z) (h0 : -9223372036854775808 ≤ z) (h1 : z ≤ 9223372036854775807) (he : Ev X k (pc + 1, L, vl z :: r) S Q) : Ev X k (pc, L, vl y :: vl x :: r) S Q := by
  refine ev_p (L' := L) (st' := vl z :: r) (S' := S) hcd ?_ he
  show some (L, vl (w64 (x - y)) :: r, S) = _
  rw [hz, w64_id ⟨h0, h1⟩]
theorem ev_lmul (hcd : cdAt k pc = some (.lmul, 1, ax)) (hz : x * y = z) (h0 : -9223372036854775808 ≤ z) (h1 : z ≤ 9223372036854775807) (he : Ev X k (pc + 1, L, vl z :: r) S Q) : Ev X k (pc, L, vl y :: vl x :: r) S Q := by
  refine ev_p (L' := L) (st' := vl z :: r) (S' := S) hcd ?_ he
  show some (L, vl (w64 (x * y)) :: r, S) = _
  rw [hz, w64_id ⟨h0, h1⟩]
theorem ev_inc {i len : Nat} {n : Int} {st : List AV} (hcd : cdAt k pc = some (.iinc i n, len, ax)) (hL : L[i]? = some (some (vi x))) (hz : x + n = z) (h0 : -2147483648 ≤ z) (h1 : z ≤ 2147483647) (hs : st1 L i (vi z) = some L') (he : Ev X k (pc + len, L', st) S Q) : Ev X k (pc, L, st) S Q := by
  refine ev_p (L' := L') (st' := st) (S' := S) hcd ?_ he
  simp only [stp, hL]
  rw [hz, w32_id ⟨h0, h1⟩, hs]
  rfl
theorem ev_eqi (h : z = x) (he : Ev X k (pc, L, vi x :: r) S Q) : Ev X k (pc, L, vi z :: r) S Q := h ▸ he
theorem ev_eql (h : z = x) (he : Ev X k (pc, L, vl x :: r) S Q) : Ev X k (pc, L, vl z :: r) S Q := h ▸ he
section AR
variable {a n j : Nat} {i : Int}
theorem ev_iaN (hcd : cdAt k pc = some (.iaload, 1, ax)) (hl : (lay S)[a]? = some (1, n)) (hi : i = (j : Int)) (hj : j < n) (hv : gi S a j = z) (he : Ev X k (pc + 1, L, vi z :: r) S Q) : Ev X k (pc, L, vi i :: vr a :: r) S Q := by
  subst hi; subst hv
  exact ev_ia hcd hl (by omega) (by omega) he
theorem ev_baN (hcd : cdAt k pc = some (.baload, 1, ax)) (hl : (lay S)[a]? = some (3, n)) (hi : i = (j : Int)) (hj : j < n) (hv : gi S a j = z) (he : Ev X k (pc + 1, L, vi z :: r) S Q) : Ev X k (pc, L, vi i :: vr a :: r) S Q := by
  subst hi; subst hv
  exact ev_ba hcd hl (by omega) (by omega) he
theorem ev_laN (hcd : cdAt k pc = some (.laload, 1, ax)) (hl : (lay S)[a]? = some (2, n)) (hi : i = (j : Int)) (hj : j < n) (hv : gl S a j = z) (he : Ev X k (pc + 1, L, vl z :: r) S Q) : Ev X k (pc, L, vi i :: vr a :: r) S Q := by
  subst hi; subst hv
  exact ev_la hcd hl (by omega) (by omega) he
theorem ev_iasN (hcd : cdAt k pc = some (.iastore, 1, ax)) (hl : (lay S)[a]? = some (1, n)) (hi : i = (j : Int)) (hj : j < n) (he : Ev X k (pc + 1, L, r) (si S a j z) Q) : Ev X k (pc, L, vi z :: vi i :: vr a :: r) S Q := by
  subst hi
  exact ev_ias hcd hl (by omega) (by omega) he
theorem ev_basN (hcd : cdAt k pc = some (.bastore, 1, ax)) (hl : (lay S)[a]? = some (3, n)) (hi : i = (j : Int)) (hj : j < n) (hz : z = 0 ∨ z = 1) (he : Ev X k (pc + 1, L, r) (si S a j z) Q) : Ev X k (pc, L, vi z :: vi i :: vr a :: r) S Q := by
  subst hi
  exact ev_bas hcd hl (by omega) (by omega) hz he
theorem ev_lasN (hcd : cdAt k pc = some (.lastore, 1, ax)) (hl : (lay S)[a]? = some (2, n)) (hi : i = (j : Int)) (hj : j < n) (he : Ev X k (pc + 1, L, r) (sl S a j z) Q) : Ev X k (pc, L, vl z :: vi i :: vr a :: r) S Q := by
  subst hi
  exact ev_las hcd hl (by omega) (by omega) he
theorem ev_xsN (hcd : cdAt k pc = some (.iaload, 1, ax)) (hl : (lay S)[xScr]? = none) (hi : i = (j : Int)) (hj : j < X.1) (hv : X.2 j = z) (he : Ev X k (pc + 1, L, vi z :: r) S Q) : Ev X k (pc, L, vi i :: vr xScr :: r) S Q := by
  subst hi; subst hv
  exact ev_xs hcd hl (by omega) (by omega) he
end AR
section BR
variable {P : Prop} {off : Int}
theorem ev_bne (d : Decidable P) (hcd : cdAt k pc = some (.ifCond .ne off, 3, ax)) (h0 : 0 ≤ (pc : Int) + off) (ht : P → Ev X k (tgt pc off, L, r) S Q) (hf : ¬ P → Ev X k (pc + 3, L, r) S Q) : Ev X k (pc, L, vi (if P then 1 else 0) :: r) S Q := by
  refine ev_if hcd h0 (fun h => ht ?_) (fun h => hf ?_)
  · by_cases hp : P
    · exact hp
    · rw [if_neg hp] at h; exact absurd rfl h
  · intro hp; rw [if_pos hp] at h; exact h (by decide : (1 : Int) ≠ 0)
theorem ev_beq (d : Decidable P) (hcd : cdAt k pc = some (.ifCond .eq off, 3, ax)) (h0 : 0 ≤ (pc : Int) + off) (ht : ¬ P → Ev X k (tgt pc off, L, r) S Q) (hf : P → Ev X k (pc + 3, L, r) S Q) : Ev X k (pc, L, vi (if P then 1 else 0) :: r) S Q := by
  refine ev_if hcd h0 (fun h => ht ?_) (fun h => hf ?_)
  · intro hp; rw [if_pos hp] at h; exact absurd h (by decide : (1 : Int) ≠ 0)
  · by_cases hp : P
    · exact hp
    · rw [if_neg hp] at h; exact absurd rfl h
theorem ev_sp (d : Decidable P) (ht : P → Ev X k (pc, L, vi 1 :: r) S Q) (hf : ¬ P → Ev X k (pc, L, vi 0 :: r) S Q) : Ev X k (pc, L, vi (if P then 1 else 0) :: r) S Q := by
  by_cases hp : P
  · rw [if_pos hp]; exact ht hp
  · rw [if_neg hp]; exact hf hp
theorem ev_s1 (d : Decidable P) (hp : P) (ht : Ev X k (pc, L, vi 1 :: r) S Q) : Ev X k (pc, L, vi (if P then 1 else 0) :: r) S Q := by rw [if_pos hp]; exact ht
theorem ev_s0 (d : Decidable P) (hp : ¬ P) (ht : Ev X k (pc, L, vi 0 :: r) S Q) : Ev X k (pc, L, vi (if P then 1 else 0) :: r) S Q := by rw [if_neg hp]; exact ht
theorem rt_b (d : Decidable P) {len a b : Nat} : ctl .ireturn len (1, a, b) (pc, L, [vi (if P then 1 else 0)]) S = some (.inr (.inr (.inl (some (vi (if P then 1 else 0))), S))) := by
  refine rt_1 ?_
  by_cases hp : P
  · rw [if_pos hp]; exact Or.inr rfl
  · rw [if_neg hp]; exact Or.inl rfl
end BR
/-- ends -/
def PV (c s : Nat) (v : Option AV) (P : (Nat → Nat → Int) → (Nat → Nat → Int) → Prop) : (Option AV ⊕ Nat) → AS → Prop := fun o T => ∃ I' J', T = MS I' J' c s ∧ o = .inl v ∧ P I' J'
def PZ (c s : Nat) (P : Int → (Nat → Nat → Int) → (Nat → Nat → Int) → Prop) : (Option AV ⊕ Nat) → AS → Prop := fun o T => ∃ z I' J', T = MS I' J' c s ∧ o = .inl (some (vi z)) ∧ P z I' J'
section CL
variable {st : List AV} {I : Instr} {len j : Nat} {as rest : List AV} {v : Option AV}
theorem ev_cv (hcd : cdAt k pc = some (I, len, ax)) (hst : stp X I ax L st S = none) (hc : ctl I len ax (pc, L, st) S = some (.inr (.inl (j, as, rest)))) (hen : (entL as).length ≤ mL j ∧ (rest.map acat).sum ≤ 8) (he : Ev X j (0, entL as ++ List.replicate (mL j - (entL as).length) none, []) S (fun o T => o = .inl v ∧ T = S')) (hk : Ev X k (pc + len, L, v.toList ++ rest) S' Q) : Ev X k (pc, L, st) S Q :=
  ev_c hcd hst hc hen he (fun w T q => by obtain ⟨q1, rfl⟩ := q; cases q1; exact hk) (fun x T q => nomatch q.1)
theorem ev_cp {c s : Nat} {P : (Nat → Nat → Int) → (Nat → Nat → Int) → Prop} (hcd : cdAt k pc = some (I, len, ax)) (hst : stp X I ax L st S = none) (hc : ctl I len ax (pc, L, st) S = some (.inr (.inl (j, as, rest)))) (hen : (entL as).length ≤ mL j ∧ (rest.map acat).sum ≤ 8) (he : Ev X j (0, entL as ++ List.replicate (mL j - (entL as).length) none, []) S (PV c s v P)) (hk : ∀ I' J', P I' J' → Ev X k (pc + len, L, v.toList ++ rest) (MS I' J' c s) Q) : Ev X k (pc, L, st) S Q :=
  ev_c hcd hst hc hen he (fun w T q => by obtain ⟨I', J', rfl, q1, q2⟩ := q; cases q1; exact hk _ _ q2) (fun x T q => by obtain ⟨I', J', _, q1, _⟩ := q; cases q1)
theorem ev_cz {c s : Nat} {P : Int → (Nat → Nat → Int) → (Nat → Nat → Int) → Prop} (hcd : cdAt k pc = some (I, len, ax)) (hst : stp X I ax L st S = none) (hc : ctl I len ax (pc, L, st) S = some (.inr (.inl (j, as, rest)))) (hen : (entL as).length ≤ mL j ∧ (rest.map acat).sum ≤ 8) (he : Ev X j (0, entL as ++ List.replicate (mL j - (entL as).length) none, []) S (PZ c s P)) (hk : ∀ z I' J', P z I' J' → Ev X k (pc + len, L, vi z :: rest) (MS I' J' c s) Q) : Ev X k (pc, L, st) S Q :=
  ev_c hcd hst hc hen he (fun w T q => by obtain ⟨z, I', J', rfl, q1, q2⟩ := q; cases q1; exact hk _ _ _ q2) (fun x T q => by obtain ⟨z, I', J', _, q1, _⟩ := q; cases q1)
theorem ev_cx {e : Nat} (hcd : cdAt k pc = some (I, len, ax)) (hst : stp X I ax L st S = none) (hc : ctl I len ax (pc, L, st) S = some (.inr (.inl (j, as, rest)))) (hen : (entL as).length ≤ mL j ∧ (rest.map acat).sum ≤ 8) (he : Ev X j (0, entL as ++ List.replicate (mL j - (entL as).length) none, []) S (fun o T => o = .inr e ∧ T = S')) (hn : hnd k pc e = none) (hq : Q (.inr e) S') : Ev X k (pc, L, st) S Q :=
  ev_c hcd hst hc hen he (fun w T q => nomatch q.1) (fun x T q => by obtain ⟨q1, rfl⟩ := q; cases q1; rw [hn]; exact hq)
theorem ev_ch {e h : Nat} (hcd : cdAt k pc = some (I, len, ax)) (hst : stp X I ax L st S = none) (hc : ctl I len ax (pc, L, st) S = some (.inr (.inl (j, as, rest)))) (hen : (entL as).length ≤ mL j ∧ (rest.map acat).sum ≤ 8) (he : Ev X j (0, entL as ++ List.replicate (mL j - (entL as).length) none, []) S (fun o T => o = .inr e ∧ T = S')) (hn : hnd k pc e = some h) (hk : Ev X k (h, L, [vj]) S' Q) : Ev X k (pc, L, st) S Q :=
  ev_c hcd hst hc hen he (fun w T q => nomatch q.1) (fun x T q => by obtain ⟨q1, rfl⟩ := q; cases q1; rw [hn]; exact hk)
end CL
end RL
theorem up2_same {α : Type} (f : Nat → Nat → α) (a k : Nat) (v : α) : up2 f a k v a k = v := by simp [up2]
theorem up2_ne1 {α : Type} (f : Nat → Nat → α) (a k : Nat) (v : α) {b j : Nat} (h : b ≠ a) : up2 f a k v b j = f b j := by simp [up2, h]
theorem up2_ne2 {α : Type} (f : Nat → Nat → α) (a k : Nat) (v : α) {b j : Nat} (h : j ≠ k) : up2 f a k v b j = f b j := by simp [up2, h]
theorem up2_row {α : Type} (f : Nat → Nat → α) (a k : Nat) (v : α) {b : Nat} (h : b ≠ a) : up2 f a k v b = f b := by funext j; simp [up2, h]
