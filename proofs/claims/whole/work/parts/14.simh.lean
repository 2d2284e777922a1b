/-! COUNTERS grow; the copying of arrays; Object's constructor. -/
theorem stp_mono {X : AX} {I : Instr} {ax : Nat × Nat × Nat} {L L' : ALs} {st st' : List AV} {S S' : AS} (h : stp X I ax L st S = some (L', st', S')) : S.2.2.1 ≤ S'.2.2.1 ∧ S.2.2.2 ≤ S'.2.2.2 ∧ (lay S).length ≤ (lay S').length := by
  have r : S.2.2.1 ≤ S.2.2.1 ∧ S.2.2.2 ≤ S.2.2.2 ∧ (lay S).length ≤ (lay S).length := ⟨Nat.le_refl _, Nat.le_refl _, Nat.le_refl _⟩
  have hk : ∀ q n, S.2.2.1 ≤ (mk S q n).2.2.1 ∧ S.2.2.2 ≤ (mk S q n).2.2.2 ∧ (lay S).length ≤ (lay (mk S q n)).length := fun q n => ⟨Nat.le_succ _, Nat.le_add_right _ _, by show _ ≤ (lay S ++ [q]).length; rw [List.length_append]; omega⟩
  unfold stp at h
  split at h
  all_goals (try (split at h))
  all_goals (try (split at h))
  all_goals (try (split at h))
  all_goals (try (split at h))
  all_goals first
    | (cases h; done)
    | (cases h; exact r)
    | (cases h; exact hk _ _)
    | (obtain ⟨x, -, e⟩ := Option.map_eq_some_iff.mp h; cases e; exact r)
section SIMH
variable {p : Program} {l : Launch} {e : Env} {R : Room} {s : State} {m : MethodId} {args : Array Value} {below : List Frame} {meth : Method} {c : Code} {H : Heap} {locs : List Loc} {cells slots : Nat} {Q : State → Prop}
variable {D : va_G} {cI cL cZ cQ : ClassId} {adX ad : Nat → Nat} {X : AX} {k pc len : Nat} {A : Nat → Prop} {I : Instr} {ax : Nat × Nat × Nat} {L L' : ALs} {st st' : List AV} {S S' : AS} {ls : Array Slot} {sv : List Value}
theorem cpW_ok : (inT 596 (.static arraycopyName) && inT 597 (.native arraycopyName) && inT 102 (.initialized "java/lang/System")) = true := by decide +kernel
theorem nfw_ok : nativeFrameWords "java/lang/System" "arraycopy" 5 ≤ 20 := by decide +kernel
theorem obW_ok : (inT 116 (.instanceMethod Lib.objectInit) && inT 117 (.code Lib.objectInit ⟨#[0xb1]⟩ 1 none)) = true := by decide +kernel
set_option maxHeartbeats 4000000 in
/-- arraycopy, Object's constructor -/
theorem sim_f {fr' : AF} (C : Cx D cI cL cZ cQ adX X k p R s m args meth c A) (hd : decode (mC k) pc = .ok (I, il I)) (hk : lkb k I ax = true)
    (hm : (match I with | .invokestatic _ => decide (ax.1 = 5 ∨ ax.1 = 6) | .invokespecial _ => decide (ax.1 = 7) | _ => false) = true)
    (hc : ctl I len ax (pc, L, st) S = some (.inl (fr', S'))) (hM : Mx D cI cL cZ cQ adX ad S A s.heap H locs) (hl : LR (lay S).length ad (mL k) L ls) (hs : SR (lay S).length ad st sv)
    (K : ∀ H' locs' sv', fr'.1 = pc + 3 → fr'.2.1 = L → lay S' = lay S → S'.2.2 = S.2.2 → Mx D cI cL cZ cQ adX ad S' A s.heap H' locs' → SR (lay S).length ad fr'.2.2 sv' → W p l e R s m args below meth c H' locs' cells slots Q (F0 m (pc + 3) ls sv')) :
    W p l e R s m args below meth c H locs cells slots Q (F0 m pc ls sv) := by
  obtain ⟨hx, hb, hml, hown, hts, hK, hA, hE, hlo, hr, htab, hnm, hfr, hro⟩ := C
  obtain ⟨hP, hDD, hS, hin, hin6, hrf, hln, hadx, hll⟩ := id hM
  have hmls : c.maxLocals = ls.size := by rw [hml]; exact hl.1.symm
  cases I with
  | invokestatic i =>
    have hm' : ax.1 = 5 ∨ ax.1 = 6 := of_decide_eq_true hm
    have hcp := cpW_ok
    simp only [Bool.and_eq_true] at hcp
    have hn1 : ¬ (ax.1 = 2 ∨ ax.1 = 3 ∨ ax.1 = 10) := by omega
    have hkk : PLk.any (fun q => decide (q.1 = mO k ∧ q.2.1 = i)) = true ∧ 1 ≤ mF k ∧ 40 ≤ mLo k := by
      simp only [lkb] at hk
      rw [if_neg (by omega), if_neg (by omega), if_neg (by omega), if_neg (by omega), Bool.and_eq_true, decide_eq_true_eq] at hk
      exact ⟨hk.1, hk.2.1, hk.2.2⟩
    obtain ⟨⟨o', i', p1⟩, g1, rfl, rfl⟩ := any_dec hkk.1
    have g2 := PW_hts hts (List.all_eq_true.mp PL_ok _ g1)
    simp only [ctl] at hc
    rw [if_neg hn1] at hc
    split at hc
    · next h5 =>
      split at hc
      · next _ n dp a sp b r =>
        split at hc
        · next na nb hla hlb =>
          split at hc
          · next hh =>
            obtain ⟨c1, c2, c3, c4, c5, c6⟩ := hh
            cases hc
            obtain ⟨w, t, rfl, ⟨hn, rfl⟩, hs1⟩ := SR_cons hs
            obtain ⟨w, t, rfl, ⟨hdp, rfl⟩, hs2⟩ := SR_cons hs1
            obtain ⟨w, t, rfl, ⟨h3, rfl⟩, hs3⟩ := SR_cons hs2
            obtain ⟨w, t, rfl, ⟨hsp, rfl⟩, hs4⟩ := SR_cons hs3
            obtain ⟨w, t, rfl, ⟨h6, rfl⟩, hs5⟩ := SR_cons hs4
            have neg : ∀ {z : Int}, 0 ≤ z → in32 z → ¬ Int32.ofInt z < 0 := fun h0 hz q => by rw [oi_0, oi_lt hz in32_0] at q; omega
            have en := oi_clamp c3 hn
            have ed := oi_clamp c2 hdp
            have es := oi_clamp c1 hsp
            have hsum := SR_sum _ _ hs5
            refine va_copyi hx hb hmls hown g2 (PW_hts hts hcp.1.2) (PW_hts hts hcp.1.1) (PW_hts hts hcp.2) hK hP hDD hS b a 0 0 (ws_get hlb) (ws_get hla) rfl rfl rfl (neg c1 hsp) (neg c2 hdp) (neg c3 hn) (by rw [es, en]; omega) (by rw [ed, en]; omega) (fun _ _ => rfl) (by omega) (by rw [hsum]; have := nfw_ok; omega) hd (fun H1 locs1 a1 a2 a3 => ?_)
            rw [en, ed, es] at a1 a2
            have e9 : wsOf cI cL cZ cQ ad ((fun x j => if x = a then (if dp.toNat ≤ j ∧ j < dp.toNat + n.toNat then S.1.1 b (sp.toNat + (j - dp.toNat)) else S.1.1 x j) else S.1.1 x j, S.1.2), S.2) = (wsOf cI cL cZ cQ ad S).set a (ad a, .inl (cI, na, .inl (va_cpy (fun j => Int32.ofInt (gi S b j)) (fun j => Int32.ofInt (gi S a j)) sp.toNat dp.toNat n.toNat))) := by
              refine ws_ext (q := (1, na)) hla rfl ?_ (fun b p hb => ?_)
              · unfold cellOf
                simp only [Nat.one_ne_zero, if_false, if_true, Sum.inl.injEq, Prod.mk.injEq, true_and]
                funext j
                simp only [gi, va_cpy, if_true]
                split <;> rfl
              · unfold cellOf fvs fval
                simp only [gi, if_neg hb]
            rw [← e9] at a1 a2
            refine K H1 locs1 t rfl rfl rfl rfl ⟨a1, a2, a3, fun x j => ?_, hin6, hrf, hln, hadx, hll⟩ hs5
            simp only [gi]
            split
            · split
              · exact hin _ _
              · exact hin _ _
            · exact hin _ _
          · cases hc
        · cases hc
      · cases hc
    · next h5 =>
      rw [if_pos (hm'.resolve_left h5)] at hc
      split at hc
      · next _ n dp a sp b r =>
        split at hc
        · next na nb hla hlb =>
          split at hc
          · next hh =>
            obtain ⟨c1, c2, c3, c4, c5, c6⟩ := hh
            cases hc
            obtain ⟨w, t, rfl, ⟨hn, rfl⟩, hs1⟩ := SR_cons hs
            obtain ⟨w, t, rfl, ⟨hdp, rfl⟩, hs2⟩ := SR_cons hs1
            obtain ⟨w, t, rfl, ⟨h3, rfl⟩, hs3⟩ := SR_cons hs2
            obtain ⟨w, t, rfl, ⟨hsp, rfl⟩, hs4⟩ := SR_cons hs3
            obtain ⟨w, t, rfl, ⟨h6, rfl⟩, hs5⟩ := SR_cons hs4
            have neg : ∀ {z : Int}, 0 ≤ z → in32 z → ¬ Int32.ofInt z < 0 := fun h0 hz q => by rw [oi_0, oi_lt hz in32_0] at q; omega
            have en := oi_clamp c3 hn
            have ed := oi_clamp c2 hdp
            have es := oi_clamp c1 hsp
            have hsum := SR_sum _ _ hs5
            refine va_copyl hx hb hmls hown g2 (PW_hts hts hcp.1.2) (PW_hts hts hcp.1.1) (PW_hts hts hcp.2) hK hP hDD hS b a 1 1 (ws_get hlb) (ws_get hla) rfl rfl rfl (neg c1 hsp) (neg c2 hdp) (neg c3 hn) (by rw [es, en]; omega) (by rw [ed, en]; omega) (fun _ _ => rfl) (by omega) (by rw [hsum]; have := nfw_ok; omega) hd (fun H1 locs1 a1 a2 a3 => ?_)
            rw [en, ed, es] at a1 a2
            have e9 : wsOf cI cL cZ cQ ad ((S.1.1, fun x j => if x = a then (if dp.toNat ≤ j ∧ j < dp.toNat + n.toNat then S.1.2 b (sp.toNat + (j - dp.toNat)) else S.1.2 x j) else S.1.2 x j), S.2) = (wsOf cI cL cZ cQ ad S).set a (ad a, .inl (cL, na, .inr (.inl (va_cpy (fun j => Int64.ofInt (gl S b j)) (fun j => Int64.ofInt (gl S a j)) sp.toNat dp.toNat n.toNat)))) := by
              refine ws_ext (q := (2, na)) hla rfl ?_ (fun b p hb => ?_)
              · unfold cellOf
                simp only [show ¬ (2 = 0) by decide, show ¬ (2 = 1) by decide, if_false, if_true, Sum.inl.injEq, Prod.mk.injEq, true_and]
                refine congrArg _ (congrArg _ ?_)
                funext j
                simp only [gl, va_cpy, if_true]
                split <;> rfl
              · unfold cellOf fvs fval
                simp only [gl, if_neg hb]
            rw [← e9] at a1 a2
            refine K H1 locs1 t rfl rfl rfl rfl ⟨a1, a2, a3, hin, fun x j => ?_, hrf, hln, hadx, hll⟩ hs5
            simp only [gl]
            split
            · split
              · exact hin6 _ _
              · exact hin6 _ _
            · exact hin6 _ _
          · cases hc
        · cases hc
      · cases hc
  | invokespecial i =>
    have hm' : ax.1 = 7 := of_decide_eq_true hm
    have hob := obW_ok
    simp only [Bool.and_eq_true] at hob
    have hkk : OLk.any (fun q => decide (q.1 = mO k ∧ q.2.1 = i)) = true ∧ 1 ≤ mF k ∧ 20 ≤ mLo k := by
      simp only [lkb] at hk
      rw [if_neg (by omega), if_pos hm', Bool.and_eq_true, decide_eq_true_eq] at hk
      exact ⟨hk.1, hk.2.1, hk.2.2⟩
    obtain ⟨⟨o', i', p1⟩, g1, rfl, rfl⟩ := any_dec hkk.1
    have g2 := PW_hts hts (List.all_eq_true.mp OL_ok _ g1)
    simp only [ctl] at hc
    rw [if_neg (by omega), if_pos hm'] at hc
    split at hc
    · next _ a r =>
      split at hc
      · next h8 =>
        cases hc
        obtain ⟨w, t, rfl, ⟨h3, rfl⟩, hs2⟩ := SR_cons hs
        have hsum := SR_sum _ _ hs2
        refine W.objInit hx hb hown g2 (PW_hts hts hob.1) (PW_hts hts hob.2) (g := F0 m pc ls (.ref (ad a) :: t)) rfl (by show ls.size = _; rw [hmls]) rfl hd (by omega) (by show 2 * 0 + _ + 12 ≤ _; rw [hsum]; omega) ?_
        exact W.eq (g2 := F0 m (pc + 3) ls t) rfl (K H locs t rfl rfl rfl rfl hM hs2)
      · cases hc
    · cases hc
  | _ => exact absurd hm (by simp)
end SIMH
