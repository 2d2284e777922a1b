section SIMN
variable {p : Program} {l : Launch} {e : Env} {R : Room} {s : State} {m : MethodId} {args : Array Value} {below : List Frame} {meth : Method} {c : Code} {H : Heap} {locs : List Loc} {cells slots : Nat} {Q : State → Prop}
variable {D : va_G} {cI cL cZ cQ : ClassId} {adX ad : Nat → Nat} {X : AX} {k pc len : Nat} {A : Nat → Prop} {I : Instr} {ax : Nat × Nat × Nat} {L L' : ALs} {st st' : List AV} {S S' : AS} {ls : Array Slot} {sv : List Value}
theorem mk_gi (q : Nat × Nat) (n j : Nat) : gi (mk S q n) (lay S).length j = 0 := by simp [gi, mk]
theorem mk_gl (q : Nat × Nat) (n j : Nat) : gl (mk S q n) (lay S).length j = 0 := by simp [gl, mk]
theorem mk_gr (q : Nat × Nat) (n j : Nat) : gr (mk S q n) (lay S).length j = none := by simp [gr, mk]
theorem Mx_mk (hM : Mx D cI cL cZ cQ adX ad S A s.heap H locs) {q : Nat × Nat} {n x : Nat} {H1 : Heap} (hq : q.2 ≤ 100000) (hl : (lay S).length < 1000000)
    (h1 : va_P D vwCl (wsOf cI cL cZ cQ ad S ++ [(x, cellOf cI cL cZ cQ ad (mk S q n) (lay S).length q)]) H1) (h2 : va_D A (wsOf cI cL cZ cQ ad S ++ [(x, cellOf cI cL cZ cQ ad (mk S q n) (lay S).length q)])) (h3 : va_S A s.heap H1 locs) :
    Mx D cI cL cZ cQ adX (va_up ad (lay S).length x) (mk S q n) A s.heap H1 locs := by
  obtain ⟨hP, hDD, hS, hin, hin6, hrf, hln, hadx, hll⟩ := hM
  have e := ws_new (cI := cI) (cL := cL) (cZ := cZ) (cQ := cQ) (ad := ad) (S := S) (q := q) (n := n) (x := x) hrf
  refine ⟨by rw [e]; exact h1, by rw [e]; exact h2, h3, fun a j => ?_, fun a j => ?_, fun a j b hb => ?_, fun r hr => ?_, fun a ha => ?_, ?_⟩
  · simp only [gi, mk]
    split
    · exact in32_0
    · exact hin a j
  · simp only [gl, mk]
    split
    · constructor <;> omega
    · exact hin6 a j
  · simp only [gr, mk] at hb
    split at hb
    · cases hb
    · have := hrf _ _ _ hb
      show b < (lay S ++ [q]).length
      rw [List.length_append]
      omega
  · rcases List.mem_append.mp (show r ∈ lay S ++ [q] from hr) with h | h
    · exact hln r h
    · rw [List.mem_singleton.mp h]; exact hq
  · rw [va_up_ne _ _ (by omega)]
    exact hadx a ha
  · show (lay S ++ [q]).length ≤ 1000000
    rw [List.length_append]
    simp only [List.length_cons, List.length_nil]
    omega
theorem AC_ok : (inT 140 (.arrayClass .int) && inT 163 (.arrayClass .long)) = true := by decide +kernel
theorem AC_okZ : inT 1208 (.arrayClass .boolean) = true := by decide +kernel
set_option maxHeartbeats 4000000 in
/-- a new object, a new array -/
theorem sim_c (C : Cx D cI cL cZ cQ adX X k p R s m args meth c A) (hd : decode (mC k) pc = .ok (I, il I)) (hk : lkb k I ax = true)
    (hm : (match I with | .new _ | .newarray _ | .anewarray _ => true | _ => false) = true)
    (hst : stp X I ax L st S = some (L', st', S')) (hM : Mx D cI cL cZ cQ adX ad S A s.heap H locs) (hs : SR (lay S).length ad st sv)
    (hc1 : cells + 1 ≤ R.cells) (hc2 : ∀ n, S'.2.2.2 = S.2.2.2 + n → slots + n ≤ R.slots)
    (K : ∀ x n H' sv', L' = L → S'.2.2.1 = S.2.2.1 + 1 → S'.2.2.2 = S.2.2.2 + n → (lay S').length = (lay S).length + 1 → (∀ a, a < (lay S).length ∨ 1000000 ≤ a → va_up ad (lay S).length x a = ad a) → Mx D cI cL cZ cQ adX (va_up ad (lay S).length x) S' A s.heap H' locs → SR (lay S').length (va_up ad (lay S).length x) st' sv' → W p l e R s m args below meth c H' locs (cells + 1) (slots + n) Q (F0 m (pc + il I) ls sv')) :
    W p l e R s m args below meth c H locs cells slots Q (F0 m pc ls sv) := by
  obtain ⟨hx, hb, hml, hown, hts, hK, hA, hE, hlo, hr, htab, hnm, hfr, hro⟩ := C
  obtain ⟨hP, hDD, hS, hin, hin6, hrf, hln, hadx, hll⟩ := id hM
  have hup : ∀ x, (lay S).length < 1000000 → ∀ a, a < (lay S).length ∨ 1000000 ≤ a → va_up ad (lay S).length x a = ad a := fun x h a ha => va_up_ne _ _ (by omega)
  have hlen1 : ∀ q n, (lay (mk S q n)).length = (lay S).length + 1 := fun q n => by show (lay S ++ [q]).length = _; rw [List.length_append]; rfl
  cases I with
  | new i =>
    simp only [stp] at hst
    simp only [lkb] at hk
    split at hst
    · next h1 =>
      obtain ⟨h1, hl, h2⟩ := h1
      cases hst
      rw [if_pos h1] at hk
      obtain ⟨⟨o', i', ci', p1, p2, p3⟩, g1, rfl, rfl, rfl⟩ := any_dec hk
      have g2 := List.all_eq_true.mp CL_ok _ g1
      simp only [Bool.and_eq_true] at g2
      have hlenf : (FT.getD ax.2.1 []).length = tN ax.2.1 := by
        have h9 := List.all_eq_true.mp ft_ok _ (List.mem_range.mpr h2)
        rw [Bool.and_eq_true, decide_eq_true_eq] at h9
        exact h9.1
      have hn := hc2 _ rfl
      refine va_new (ci := ax.2.1) (C := cn ax.2.1) (T := tX ax.2.1) (N := tN ax.2.1) (fs := fvs ad (mk S (0, ax.2.1) (FT.getD ax.2.1 []).length) (lay S).length (FT.getD ax.2.1 [])) hx hb hts (cl_ws _ h2) (tY ax.2.1) (cl_ty _ h2) hown (PW_hts hts g2.1.1.1) (PW_hts hts g2.1.1.2) (PW_hts hts g2.1.2) hK hP hDD hS hA (cl_get _ h2) (fun j hj => ?_) hc1 (by rw [← hlenf]; exact hn) hd (fun x H1 a1 a2 a3 => ?_)
      · obtain ⟨t, ht⟩ : ∃ t, (FT.getD ax.2.1 [])[j]? = some t := ⟨_, List.getElem?_eq_getElem (by rw [hlenf]; exact hj)⟩
        obtain ⟨-, g5⟩ := ft_get h2 hj ht
        unfold vp_V
        rw [List.getD_eq_getElem?_getD, fvs_get ht]
        show defaultValue _ = fval _ _ _ _ _
        match t, g5 with
        | 0, g5 =>
          rcases tag0 g5 with ⟨e1, -⟩ | ⟨e1, -⟩ <;> rw [e1] <;> simp only [fval, mk_gi] <;> rfl
        | 1, g5 => rw [tag1 g5]; simp only [fval, mk_gl]; rfl
        | 2, g5 => rcases tag2 g5 with ⟨nm, e1⟩ | ⟨nm, e1⟩ <;> rw [e1] <;> simp only [fval, mk_gr] <;> rfl
        | t + 3, g5 => simp [tagTy] at g5
      · have hMn := Mx_mk hM (q := (0, ax.2.1)) (n := (FT.getD ax.2.1 []).length) (x := x) (show ax.2.1 ≤ 100000 by omega) hl a1 a2 a3
        have hu := hup x hl
        rw [← hlenf]
        refine K x _ H1 _ rfl rfl rfl (hlen1 _ _) hu hMn ⟨⟨Or.inl (by rw [hlen1]; omega), ?_⟩, SR_mono (by rw [hlen1]; omega) hu _ _ hs⟩
        rw [va_up_self]
    · cases hst
  | newarray ty =>
    simp only [stp] at hst
    split at hst
    · next z r =>
      split at hst
      · next h1 =>
        obtain ⟨h1, h2, hl, h3⟩ := h1
        cases hst
        obtain ⟨w, t, rfl, ⟨hz, rfl⟩, hs2⟩ := SR_cons hs
        have hn := hc2 _ rfl
        have hneg : ¬ Int32.ofInt z < 0 := fun q => by rw [oi_0, oi_lt hz in32_0] at q; omega
        have hcl : (Int32.ofInt z).toNatClampNeg = z.toNat := oi_clamp h1 hz
        have hac := AC_ok
        rw [Bool.and_eq_true] at hac
        have fin : ∀ (cA : ClassId) (a0 : vp_A) (x : Nat) (H1 : Heap), cellOf cI cL cZ cQ ad (mk S (ax.1, z.toNat) z.toNat) (lay S).length (ax.1, z.toNat) = .inl (cA, a0) → va_P D vwCl (wsOf cI cL cZ cQ ad S ++ [(x, .inl (cA, a0))]) H1 → va_D A (wsOf cI cL cZ cQ ad S ++ [(x, .inl (cA, a0))]) → va_S A s.heap H1 locs → W p l e R s m args below meth c H1 locs (cells + 1) (slots + z.toNat) Q (F0 m (pc + 2) ls (.ref x :: t)) := by
          intro cA a0 x H1 e0 a1 a2 a3
          rw [← e0] at a1 a2
          have hMn := Mx_mk hM (q := (ax.1, z.toNat)) (n := z.toNat) (x := x) (show z.toNat ≤ 100000 by omega) hl a1 a2 a3
          have hu := hup x hl
          refine K x _ H1 _ rfl rfl rfl (hlen1 _ _) hu hMn ⟨⟨Or.inl (by rw [hlen1]; omega), ?_⟩, SR_mono (by rw [hlen1]; omega) hu _ _ hs2⟩
          rw [va_up_self]
        rcases h3 with ⟨h3, rfl⟩ | ⟨h3, rfl⟩ | ⟨h3, rfl⟩
        · refine va_newa (atype := .int) (ty := .int) (a0 := (z.toNat, .inl (fun _ => 0))) hx hb (PW_hts hts hac.1) rfl hK hP hDD hS hA (fun cA => rfl) hneg hcl (by show z.toNat * 4 ≤ _; omega) hc1 hn hd (fun x cA H1 a0 a1 a2 a3 => ?_)
          have f1 : s.vm.findClass ("[" ++ (FieldType.int).toString) = some cA := (a0.2 4 _ rfl).2
          have f2 : s.vm.findClass ("[" ++ (FieldType.int).toString) = some cI := (hK.2 0 _ rfl).2
          have f3 : cA = cI := Option.some.inj (f1.symm.trans f2)
          refine fin cA _ x H1 ?_ a1 a2 a3
          subst f3
          unfold cellOf
          rw [if_neg (show ¬ (ax.1, z.toNat).1 = 0 by simp [h3]), if_pos (show (ax.1, z.toNat).1 = 1 from h3)]
          simp only [mk_gi]
          rfl
        · refine va_newa (atype := .long) (ty := .long) (a0 := (z.toNat, .inr (.inl (fun _ => 0)))) hx hb (PW_hts hts hac.2) rfl hK hP hDD hS hA (fun cA => rfl) hneg hcl (by show z.toNat * 8 ≤ _; omega) hc1 hn hd (fun x cA H1 a0 a1 a2 a3 => ?_)
          have f1 : s.vm.findClass ("[" ++ (FieldType.long).toString) = some cA := (a0.2 4 _ rfl).2
          have f2 : s.vm.findClass ("[" ++ (FieldType.long).toString) = some cL := (hK.2 1 _ rfl).2
          have f3 : cA = cL := Option.some.inj (f1.symm.trans f2)
          refine fin cA _ x H1 ?_ a1 a2 a3
          subst f3
          unfold cellOf
          rw [if_neg (show ¬ (ax.1, z.toNat).1 = 0 by simp [h3]), if_neg (show ¬ (ax.1, z.toNat).1 = 1 by simp [h3]), if_pos (show (ax.1, z.toNat).1 = 2 from h3)]
          simp only [mk_gl]
          rfl
        · refine va_newa (atype := .boolean) (ty := .boolean) (a0 := (z.toNat, .inl (fun _ => 0))) hx hb (PW_hts hts AC_okZ) rfl hK hP hDD hS hA (fun cA => rfl) hneg hcl (by show z.toNat * 1 ≤ _; omega) hc1 hn hd (fun x cA H1 a0 a1 a2 a3 => ?_)
          have f1 : s.vm.findClass ("[" ++ (FieldType.boolean).toString) = some cA := (a0.2 4 _ rfl).2
          have f2 : s.vm.findClass ("[" ++ (FieldType.boolean).toString) = some cZ := (hK.2 2 _ rfl).2
          have f3 : cA = cZ := Option.some.inj (f1.symm.trans f2)
          refine fin cA _ x H1 ?_ a1 a2 a3
          subst f3
          unfold cellOf
          rw [if_neg (show ¬ (ax.1, z.toNat).1 = 0 by simp [h3]), if_neg (show ¬ (ax.1, z.toNat).1 = 1 by simp [h3]), if_neg (show ¬ (ax.1, z.toNat).1 = 2 by simp [h3]), if_pos (show (ax.1, z.toNat).1 = 3 from h3)]
          simp only [mk_gi]
          rfl
      · cases hst
    · cases hst
  | anewarray i =>
    simp only [stp] at hst
    simp only [lkb] at hk
    split at hst
    · next z r =>
      split at hst
      · next h1 =>
        obtain ⟨h1, h2, hl, h3⟩ := h1
        cases hst
        obtain ⟨w, t, rfl, ⟨hz, rfl⟩, hs2⟩ := SR_cons hs
        have hn := hc2 _ rfl
        have hneg : ¬ Int32.ofInt z < 0 := fun q => by rw [oi_0, oi_lt hz in32_0] at q; omega
        have hcl : (Int32.ofInt z).toNatClampNeg = z.toNat := oi_clamp h1 hz
        obtain ⟨⟨o', i', p1⟩, g1, rfl, rfl⟩ := any_dec hk
        have g2 := PW_hts hts (List.all_eq_true.mp AL_ok _ g1)
        refine va_newq hx hb hown g2 hE.2.2.2.2.2.2.2.2.2.2.2.2.2 hK hP hDD hS hA hneg hcl (by omega) hc1 hn hd (fun x cA H1 a0 a1 a2 a3 => ?_)
        obtain ⟨-, kA, comp, -, -, -, f1⟩ := a0.2 4 _ rfl
        obtain ⟨-, kA2, comp2, -, -, -, f2⟩ := hK.2 3 _ rfl
        have f3 : cA = cQ := Option.some.inj (f1.symm.trans f2)
        subst f3
        have e0 : cellOf cI cL cZ cA ad (mk S (4, z.toNat) z.toNat) (lay S).length (4, z.toNat) = .inl (cA, z.toNat, .inr (.inr (.inr (.inr (fun _ => none))))) := by
          unfold cellOf
          simp only [mk_gr, show ¬ (4 = 0) by decide, show ¬ (4 = 1) by decide, show ¬ (4 = 2) by decide, show ¬ (4 = 3) by decide, if_false]
          rfl
        rw [← e0] at a1 a2
        have hMn := Mx_mk hM (q := (4, z.toNat)) (n := z.toNat) (x := x) (show z.toNat ≤ 100000 by omega) hl a1 a2 a3
        have hu := hup x hl
        refine K x _ H1 _ rfl rfl rfl (hlen1 _ _) hu hMn ⟨⟨Or.inl (by rw [hlen1]; omega), ?_⟩, SR_mono (by rw [hlen1]; omega) hu _ _ hs2⟩
        rw [va_up_self]
      · cases hst
    · cases hst
  | _ => exact absurd hm (by simp)
end SIMN
