section SIMC
variable {p : Program} {l : Launch} {e : Env} {R : Room} {s : State} {m : MethodId} {args : Array Value} {below : List Frame} {meth : Method} {c : Code} {H : Heap} {locs : List Loc} {cells slots : Nat} {Q : State → Prop}
variable {D : va_G} {cI cL cZ cQ : ClassId} {adX ad : Nat → Nat} {X : AX} {k pc len : Nat} {A : Nat → Prop} {I : Instr} {ax : Nat × Nat × Nat} {L L' : ALs} {st st' : List AV} {S S' : AS} {ls : Array Slot} {sv : List Value}
set_option maxHeartbeats 4000000 in
/-- fields and array places, read and written; constants of the pool: no cell is made -/
theorem sim_b (C : Cx D cI cL cZ cQ adX X k p R s m args meth c A) (hd : decode (mC k) pc = .ok (I, il I)) (hk : lkb k I ax = true)
    (hm : (match I with | .ldc _ | .ldc_w _ | .ldc2_w _ | .getfield _ | .putfield _ | .getstatic _ | .iaload | .baload | .laload | .aaload | .iastore | .bastore | .lastore | .aastore | .arraylength => true | _ => false) = true)
    (hst : stp X I ax L st S = some (L', st', S')) (hM : Mx D cI cL cZ cQ adX ad S A s.heap H locs) (hs : SR (lay S).length ad st sv)
    (K : ∀ H' locs' sv', L' = L → lay S' = lay S → S'.2.2 = S.2.2 → Mx D cI cL cZ cQ adX ad S' A s.heap H' locs' → SR (lay S).length ad st' sv' → W p l e R s m args below meth c H' locs' cells slots Q (F0 m (pc + il I) ls sv')) :
    W p l e R s m args below meth c H locs cells slots Q (F0 m pc ls sv) := by
  obtain ⟨hx, hb, hml, hown, hts, hK, hA, hE, hlo, hr, htab, hnm, hfr, hro⟩ := C
  obtain ⟨hP, hDD, hS, hin, hin6, hrf, hln, hadx, hll⟩ := id hM
  cases I with
  | ldc i =>
    simp only [stp] at hst
    simp only [lkb] at hk
    split at hst
    · next h1 =>
      rw [if_pos h1] at hk
      split at hst
      · next h2 =>
        cases hst
        obtain ⟨⟨o', i', v', pl⟩, g1, rfl, rfl, rfl⟩ := any_dec hk
        have g2 := PW_hts hts (List.all_eq_true.mp CI_ok _ g1)
        exact lv_ldc hx hb hown g2 hd (K _ _ _ rfl rfl rfl hM ⟨⟨⟨by omega, by omega⟩, rfl⟩, hs⟩)
      · cases hst
    · next h1 =>
      rw [if_neg h1] at hk
      split at hst
      · next h2 =>
        rw [if_pos h2] at hk
        cases hst
        obtain ⟨⟨o', i', v'⟩, g1, rfl, rfl, rfl⟩ := any_dec hk
        have g2 := of_decide_eq_true (List.all_eq_true.mp SL_ok _ g1)
        obtain ⟨⟨r1, r2, r3⟩, g3, g4⟩ := Option.map_eq_some_iff.mp g2.1
        cases g4
        have g5 := hE.2.1 _ _ g3
        refine va_ldcS hx hb hown g5 hd (K _ _ _ rfl rfl rfl hM ⟨⟨Or.inr (by unfold xStr; omega), ?_⟩, hs⟩)
        rw [hadx _ (by unfold xStr; omega)]
      · cases hst
  | ldc_w i =>
    simp only [stp] at hst
    simp only [lkb] at hk
    split at hst
    · next h1 =>
      rw [if_pos h1.1] at hk
      cases hst
      obtain ⟨⟨o', i', v', pl⟩, g1, rfl, rfl, rfl⟩ := any_dec hk
      have g2 := PW_hts hts (List.all_eq_true.mp CI_ok _ g1)
      exact lv_ldcw hx hb hown g2 hd (K _ _ _ rfl rfl rfl hM ⟨⟨⟨by have := h1.2; omega, by have := h1.2; omega⟩, rfl⟩, hs⟩)
    · cases hst
  | ldc2_w i =>
    simp only [stp] at hst
    simp only [lkb] at hk
    split at hst
    · next h1 =>
      cases hst
      obtain ⟨⟨o', i', v', pl⟩, g1, rfl, rfl, g3⟩ := any_dec hk
      have g2 := PW_hts hts (List.all_eq_true.mp CLL_ok _ g1)
      dsimp only at g2 g3
      rw [g3] at g2
      refine lv_ldc2 hx hb hown g2 hd (K _ _ _ rfl rfl rfl hM ⟨⟨?_, rfl⟩, hs⟩)
      split <;> constructor <;> omega
    · cases hst
  | getstatic i =>
    simp only [stp] at hst
    simp only [lkb, decide_eq_true_eq] at hk
    split at hst
    · next h1 =>
      cases hst
      obtain ⟨-, g1, rfl⟩ := hk.resolve_right (fun q => by omega)
      have g2 : (Cond.fieldLink (cn 8) 278 "IconSetBuilder" "EXTRAS_BY_PREFERENCE" "[I").before args s = true := PW_hts hts (p := 1081) (by decide +kernel)
      rw [g1] at hown
      refine va_gets hx hb hE.2.2.2.2.2.1 hS hown g2 (fun _ h => h) hd (K _ _ _ rfl rfl rfl hM ⟨⟨Or.inr (by decide), ?_⟩, hs⟩)
      rw [hadx _ (by decide)]
    · split at hst
      · next h1 =>
        cases hst
        obtain ⟨-, g1, rfl⟩ := (hk.resolve_left (fun q => by omega)).resolve_right (fun q => by omega)
        have g2 : (Cond.fieldLink (cn 13) 38 "java/lang/String" "COMPACT_STRINGS" "Z").before args s = true := PW_hts hts (p := 1261) (by decide +kernel)
        rw [g1] at hown
        exact va_gets hx hb hE.2.2.2.2.2.2.2.2.2.2.1 hS hown g2 (fun _ h => h) hd (K _ _ _ rfl rfl rfl hM ⟨⟨⟨by omega, by omega⟩, rfl⟩, hs⟩)
      · split at hst
        · next h1 =>
          cases hst
          obtain ⟨-, g1, rfl⟩ := (hk.resolve_left (fun q => by omega)).resolve_left (fun q => by omega)
          have g2 : (Cond.fieldLink (cn 13) 1053 "jdk/internal/util/Preconditions" "SIOOBE_FORMATTER" "Ljava/util/function/BiFunction;").before args s = true := PW_hts hts (p := 1277) (by decide +kernel)
          rw [g1] at hown
          rcases hE.2.2.2.2.2.2.2.2.2.2.2.1 with hz | ⟨q, hz⟩
          · exact va_gets hx hb hz hS hown g2 (fun _ h => h) hd (K _ _ _ rfl rfl rfl hM ⟨Or.inl rfl, hs⟩)
          · exact va_gets hx hb hz hS hown g2 (fun _ h => h) hd (K _ _ _ rfl rfl rfl hM ⟨Or.inr ⟨q, rfl⟩, hs⟩)
        · cases hst
  | getfield i =>
    simp only [stp] at hst
    simp only [lkb] at hk
    split at hst
    · next a r =>
      split at hst
      · next h20 =>
        rw [if_pos h20, decide_eq_true_eq] at hk
        obtain ⟨w, t, rfl, ⟨h3, rfl⟩, hs2⟩ := SR_cons hs
        split at hst
        · next hx1 =>
          obtain ⟨hx0, hx1, hx2⟩ := hx1
          have ha : 1000000 ≤ a := by unfold xStr at hx1; omega
          have hi8 : a - xStr < 8 := by omega
          have hst8 := hE.2.2.1.1 (a - xStr) hi8
          have ea : xStr + (a - xStr) = a := by omega
          have eb : xByt + (a - xStr) = a + 100 := by unfold xByt xStr at *; omega
          dsimp only at hst8
          rw [ea, eb] at hst8
          rw [hk.1] at hown
          rw [hadx a ha]
          split at hst
          · next h0 =>
            cases hst
            have g2 : (Cond.fieldLink (cn 13) 9 "java/lang/String" "value" "[B").before args s = true := PW_hts hts (p := 1702) (by decide +kernel)
            obtain ⟨-, rfl⟩ := hk.2.resolve_right (fun q => by omega)
            refine vk_getf hx hb hst8.2.2.1 hS hown g2 (fun _ h => h) hd (K _ _ _ rfl rfl rfl hM ⟨⟨Or.inr (by omega), ?_⟩, hs2⟩)
            rw [hadx _ (by omega)]
          · next h0 =>
            cases hst
            have g2 : (Cond.fieldLink (cn 13) 15 "java/lang/String" "coder" "B").before args s = true := PW_hts hts (p := 1703) (by decide +kernel)
            obtain ⟨-, rfl⟩ := hk.2.resolve_left (fun q => h0 q.1)
            exact vk_getf hx hb hst8.2.1 hS hown g2 (fun _ h => h) hd (K _ _ _ rfl rfl rfl hM ⟨⟨in32_0, rfl⟩, hs2⟩)
        · cases hst
      · next h20 =>
      rw [if_neg h20] at hk
      obtain ⟨k1, k2, k3⟩ := FL_get hk
      split at hst
      · next h1 =>
        obtain ⟨w, t, rfl, ⟨h3, rfl⟩, hs2⟩ := SR_cons hs
        have hws : (wsOf cI cL cZ cQ ad S)[a]? = some (ad a, .inr (ax.1, fvs ad S a (FT.getD ax.1 []))) := ws_get h1
        split at hst
        · next h2 =>
          cases hst
          refine va_get (ci := ax.1) (C := cn ax.1) (T := tX ax.1) (N := tN ax.1) hx hb hts (cl_ws _ k1) hown hK hP a hws (cl_get _ k1) ax.2.1 k2 (hts _ k3) (fun _ h => h) (fvs_get h2) hd ?_
          exact K _ _ _ rfl rfl rfl hM ⟨⟨hin _ _, rfl⟩, hs2⟩
        · next h2 =>
          cases hst
          refine va_get (ci := ax.1) (C := cn ax.1) (T := tX ax.1) (N := tN ax.1) hx hb hts (cl_ws _ k1) hown hK hP a hws (cl_get _ k1) ax.2.1 k2 (hts _ k3) (fun _ h => h) (fvs_get h2) hd ?_
          exact K _ _ _ rfl rfl rfl hM ⟨⟨hin6 _ _, rfl⟩, hs2⟩
        · next t h4 h5 h2 =>
          cases hst
          refine va_get (ci := ax.1) (C := cn ax.1) (T := tX ax.1) (N := tN ax.1) hx hb hts (cl_ws _ k1) hown hK hP a hws (cl_get _ k1) ax.2.1 k2 (hts _ k3) (fun _ h => h) (fvs_get h2) hd ?_
          refine K _ _ _ rfl rfl rfl hM ⟨?_, hs2⟩
          have hf : fval ad S a t ax.2.1 = va_rf ((gr S a ax.2.1).map ad) := by
            match t, h4, h5 with
            | 0, h4, _ => exact absurd rfl h4
            | 1, _, h5 => exact absurd rfl h5
            | t + 2, _, _ => rfl
          rw [hf]
          cases hg : gr S a ax.2.1 with
          | none => rfl
          | some b => exact ⟨Or.inl (hrf _ _ _ hg), rfl⟩
        · cases hst
      · cases hst
    · cases hst
  | putfield i =>
    simp only [stp] at hst
    simp only [lkb, Bool.and_eq_true, decide_eq_true_eq] at hk
    obtain ⟨⟨hk1, hk2⟩, hk3⟩ := hk
    obtain ⟨k1, k2, k3⟩ := FL_get hk1
    split at hst
    · next v a r =>
      split at hst
      · next h1 =>
        obtain ⟨w, t, rfl, hw, hs2⟩ := SR_cons hs
        obtain ⟨w2, t, rfl, ⟨h3, rfl⟩, hs3⟩ := SR_cons hs2
        have hws : (wsOf cI cL cZ cQ ad S)[a]? = some (ad a, .inr (ax.1, fvs ad S a (FT.getD ax.1 []))) := ws_get h1
        have put : ∀ (ty : FieldType) (x : Value), tY ax.1 ax.2.1 = ty → narrow ty x = x → fits ty x = true → ax.2.1 < (fvs ad S a (FT.getD ax.1 [])).length →
            (∀ (H1 : Heap) (locs1 : List Loc), va_P D vwCl ((wsOf cI cL cZ cQ ad S).set a (ad a, .inr (ax.1, (fvs ad S a (FT.getD ax.1 [])).set ax.2.1 x))) H1 → va_D A ((wsOf cI cL cZ cQ ad S).set a (ad a, .inr (ax.1, (fvs ad S a (FT.getD ax.1 [])).set ax.2.1 x))) → va_S A s.heap H1 locs1 → W p l e R s m args below meth c H1 locs1 cells slots Q (F0 m (pc + 3) ls t)) →
            W p l e R s m args below meth c H locs cells slots Q (F0 m pc ls (x :: .ref (ad a) :: t)) := by
          intro ty x hty hn hf hlt kk
          have hd2 := cl_ty _ k1 _ k2
          rw [hty] at hd2
          by_cases hfin : (tX ax.1 ax.2.1).2.2.2 = true
          · rw [if_pos hfin, decide_eq_true_eq] at hk2
            have hnin : meth.name = "<init>" := by
              have h9 : ∃ k0, k0 < kN ∧ k0 ≠ kLaw ∧ k = k0 := by
                refine ⟨k, ?_, ?_, rfl⟩
                · rcases Nat.lt_or_ge k kN with h | h
                  · exact h
                  · have e1 : mG k = 0 := by unfold mG mt; rw [List.getD_eq_getElem?_getD, List.getElem?_eq_none (by rw [show MT.length = kN from by decide +kernel]; exact h)]; rfl
                    rw [e1] at hk2; exact absurd hk2.1 (by decide)
                · intro h; subst h; exact absurd hk2.1 (by decide +kernel)
              obtain ⟨k0, g1, g2, rfl⟩ := h9
              have g3 := MW_ok k g1 g2
              unfold mwOk at g3
              simp only [Bool.and_eq_true] at g3
              have g4 := g3.1.1.1.2
              rw [if_pos hk2.1, decide_eq_true_eq] at g4
              rw [hnm, g4]
            exact va_putF (ci := ax.1) (C := cn ax.1) (T := tX ax.1) (N := tN ax.1) hx hb hts (cl_ws _ k1) (tY ax.1) (cl_ty _ k1) (cl_nm _ k1) hown hK hP hDD hS a hws (cl_get _ k1) ax.2.1 k2 (hts _ k3) (fun _ h => h) hfin hnin hk2.2 hd2 hn hf hlt hd kk
          · exact va_put (ci := ax.1) (C := cn ax.1) (T := tX ax.1) (N := tN ax.1) hx hb hts (cl_ws _ k1) (tY ax.1) (cl_ty _ k1) (cl_nm _ k1) hown hK hP hDD hS a hws (cl_get _ k1) ax.2.1 k2 (hts _ k3) (fun _ h => h) (by simpa using hfin) hd2 hn hf hlt hd kk
        split at hst
        · next h2 =>
          split at hst
          · next h4 =>
            cases hst
            obtain ⟨hz, rfl⟩ := hw
            obtain ⟨g1, g2⟩ := ft_get k1 k2 h2
            have hlt : ax.2.1 < (fvs ad S a (FT.getD ax.1 [])).length := by rw [fvs_len, g1]; exact k2
            rw [← hk3] at g2
            rcases tag0 g2 with ⟨e1, e2⟩ | ⟨e1, e2⟩
            · refine put _ _ e1 rfl rfl hlt (fun H1 locs1 a1 a2 a3 => ?_)
              rw [← ws_si h1 h2] at a1 a2
              exact K _ _ _ rfl rfl rfl (Mx_si hM hz a1 a2 a3) hs3
            · have hz1 := nar01 (h4.resolve_left (by omega))
              refine put _ _ e1 hz1.1 hz1.2.1 hlt (fun H1 locs1 a1 a2 a3 => ?_)
              rw [← ws_si h1 h2] at a1 a2
              exact K _ _ _ rfl rfl rfl (Mx_si hM hz a1 a2 a3) hs3
          · cases hst
        · next h2 =>
          cases hst
          obtain ⟨hz, rfl⟩ := hw
          obtain ⟨g1, g2⟩ := ft_get k1 k2 h2
          have hlt : ax.2.1 < (fvs ad S a (FT.getD ax.1 [])).length := by rw [fvs_len, g1]; exact k2
          refine put _ _ (tag1 g2) rfl rfl hlt (fun H1 locs1 a1 a2 a3 => ?_)
          rw [← ws_sl h1 h2] at a1 a2
          exact K _ _ _ rfl rfl rfl (Mx_sl hM hz a1 a2 a3) hs3
        · next b h2 =>
          split at hst
          · next h4 =>
            cases hst
            obtain ⟨hz, rfl⟩ := hw
            obtain ⟨g1, g2⟩ := ft_get k1 k2 h2
            have hlt : ax.2.1 < (fvs ad S a (FT.getD ax.1 [])).length := by rw [fvs_len, g1]; exact k2
            rcases tag2 g2 with ⟨nm, e1⟩ | ⟨nm, e1⟩
            · refine put _ _ e1 rfl rfl hlt (fun H1 locs1 a1 a2 a3 => ?_)
              rw [← ws_sr h1 h2] at a1 a2
              exact K _ _ _ rfl rfl rfl (Mx_sr hM h4 a1 a2 a3) hs3
            · refine put _ _ e1 rfl rfl hlt (fun H1 locs1 a1 a2 a3 => ?_)
              rw [← ws_sr h1 h2] at a1 a2
              exact K _ _ _ rfl rfl rfl (Mx_sr hM h4 a1 a2 a3) hs3
          · cases hst
        · cases hst
      · cases hst
    · cases hst
  | iaload =>
    simp only [stp] at hst
    split at hst
    · next i a r =>
      obtain ⟨w, t, rfl, ⟨hz, rfl⟩, hs2⟩ := SR_cons hs
      obtain ⟨w2, t, rfl, ⟨h3, rfl⟩, hs3⟩ := SR_cons hs2
      obtain ⟨z, e1, e2⟩ := Option.map_eq_some_iff.mp hst
      cases e2
      unfold rdA at e1
      split at e1
      · next u n hla =>
        split at e1
        · next hc =>
          obtain ⟨rfl, hc1, hc2⟩ := hc
          cases e1
          refine va_iald (t0 := 0) hx hb hK hP a (ws_get hla) rfl (oi_in hc1 hc2 hz) hd (K _ _ _ rfl rfl rfl hM ⟨⟨hin _ _, ?_⟩, hs3⟩)
          rw [oi_clamp hc1 hz]
        · cases e1
      · next hla =>
        have had : 1000000 ≤ a → ad a = adX a := hadx a
        split at e1
        · next hc =>
          obtain ⟨-, rfl, hc1, hc2⟩ := hc
          cases e1
          rw [had (by decide)]
          refine va_ti hx hb hE.2.2.2.2.2.2.2.1 hS (oi_in hc1 hc2 hz) rfl hd (K _ _ _ rfl rfl rfl hM ⟨⟨hE.2.2.2.2.2.2.2.2.1 _, ?_⟩, hs3⟩)
          rw [oi_clamp hc1 hz]
        · split at e1
          · next hc =>
            obtain ⟨-, rfl, hc1, hc2⟩ := hc
            cases e1
            rw [had (by decide)]
            refine va_ti hx hb hE.2.2.2.2.2.2.1 hS (oi_in hc1 (by omega) hz) rfl hd (K _ _ _ rfl rfl rfl hM ⟨⟨?_, ?_⟩, hs3⟩)
            · have h9 : ∀ j, j < 5 → in32 (exs.getD j 0) := by decide
              exact h9 _ (by omega)
            · rw [oi_clamp hc1 hz]
          · cases e1
    · cases hst
  | baload =>
    simp only [stp] at hst
    split at hst
    · next i a r =>
      obtain ⟨w, t, rfl, ⟨hz, rfl⟩, hs2⟩ := SR_cons hs
      obtain ⟨w2, t, rfl, ⟨h3, rfl⟩, hs3⟩ := SR_cons hs2
      obtain ⟨z, e1, e2⟩ := Option.map_eq_some_iff.mp hst
      cases e2
      unfold rdA at e1
      split at e1
      · next u n hla =>
        split at e1
        · next hc =>
          obtain ⟨rfl, hc1, hc2⟩ := hc
          cases e1
          refine va_zald (t0 := 2) hx hb hK hP a (ws_get hla) rfl (oi_in hc1 hc2 hz) hd (K _ _ _ rfl rfl rfl hM ⟨⟨hin _ _, ?_⟩, hs3⟩)
          rw [oi_clamp hc1 hz]
        · cases e1
      · next hla =>
        split at e1
        · next hc => exact absurd hc.1 (by decide)
        · split at e1
          · next hc => exact absurd hc.1 (by decide)
          · split at e1
            · next hc =>
              obtain ⟨-, hx1, hx2, hc1, hc2⟩ := hc
              cases e1
              have ha : 1000000 ≤ a := by unfold xByt at hx1; omega
              have hi8 : a - xByt < 8 := by omega
              have hst8 := hE.2.2.1.1 (a - xByt) hi8
              have eb : xByt + (a - xByt) = a := by omega
              dsimp only at hst8
              rw [eb] at hst8
              rw [hadx a ha]
              have hl8 : ∀ j, j < 8 → lenS.getD j 0 = (TXT.getD j []).length := by decide
              have hb8 : ∀ j, j < 8 → ∀ q, q < (TXT.getD j []).length → (bytS.getD j []).getD q 0 = Int32.ofInt (((TXT.getD j []).getD q 0 : Nat) : Int) ∧ in32 (((TXT.getD j []).getD q 0 : Nat) : Int) := by decide
              have hq : i.toNat < (TXT.getD (a - xByt) []).length := by omega
              obtain ⟨b1, b2⟩ := hb8 _ hi8 _ hq
              refine va_tb hx hb hst8.2.2.2 hS (oi_in hc1 (by rw [hl8 _ hi8]; exact hc2) hz) rfl hd (K _ _ _ rfl rfl rfl hM ⟨⟨b2, ?_⟩, hs3⟩)
              rw [oi_clamp hc1 hz, b1]
            · cases e1
    · cases hst
  | laload =>
    simp only [stp] at hst
    split at hst
    · next i a r =>
      obtain ⟨w, t, rfl, ⟨hz, rfl⟩, hs2⟩ := SR_cons hs
      obtain ⟨w2, t, rfl, ⟨h3, rfl⟩, hs3⟩ := SR_cons hs2
      split at hst
      · next u n hla =>
        split at hst
        · next hc =>
          obtain ⟨rfl, hc1, hc2⟩ := hc
          cases hst
          refine va_lald (t0 := 1) hx hb hK hP a (ws_get hla) rfl (oi_in hc1 hc2 hz) hd (K _ _ _ rfl rfl rfl hM ⟨⟨hin6 _ _, ?_⟩, hs3⟩)
          rw [oi_clamp hc1 hz]
        · cases hst
      · cases hst
    · cases hst
  | aaload =>
    simp only [stp] at hst
    split at hst
    · next i a r =>
      obtain ⟨w, t, rfl, ⟨hz, rfl⟩, hs2⟩ := SR_cons hs
      obtain ⟨w2, t, rfl, ⟨h3, rfl⟩, hs3⟩ := SR_cons hs2
      split at hst
      · next u n hla =>
        split at hst
        · next hc =>
          obtain ⟨rfl, hc1, hc2⟩ := hc
          cases hst
          refine va_aldq (t0 := 3) hx hb hK hP a (ws_get hla) rfl (oi_in hc1 hc2 hz) hd (K _ _ _ rfl rfl rfl hM ⟨?_, hs3⟩)
          rw [oi_clamp hc1 hz]
          cases hg : gr S a i.toNat with
          | none => rfl
          | some b => exact ⟨Or.inl (hrf _ _ _ hg), rfl⟩
        · cases hst
      · cases hst
    · cases hst
  | iastore =>
    simp only [stp] at hst
    split at hst
    · next z i a r =>
      obtain ⟨w, t, rfl, ⟨hy, rfl⟩, hs1⟩ := SR_cons hs
      obtain ⟨w, t, rfl, ⟨hz, rfl⟩, hs2⟩ := SR_cons hs1
      obtain ⟨w2, t, rfl, ⟨h3, rfl⟩, hs3⟩ := SR_cons hs2
      split at hst
      · next u n hla =>
        split at hst
        · next hc =>
          obtain ⟨rfl, hc1, hc2⟩ := hc
          cases hst
          refine va_iast (t0 := 0) hx hb hK hP hDD hS a (ws_get hla) rfl (oi_in hc1 hc2 hz) hd (fun H1 locs1 a1 a2 a3 => ?_)
          rw [oi_clamp hc1 hz, ← ws_siA hla] at a1 a2
          exact K _ _ _ rfl rfl rfl (Mx_si hM hy a1 a2 a3) hs3
        · cases hst
      · cases hst
    · cases hst
  | bastore =>
    simp only [stp] at hst
    split at hst
    · next z i a r =>
      obtain ⟨w, t, rfl, ⟨hy, rfl⟩, hs1⟩ := SR_cons hs
      obtain ⟨w, t, rfl, ⟨hz, rfl⟩, hs2⟩ := SR_cons hs1
      obtain ⟨w2, t, rfl, ⟨h3, rfl⟩, hs3⟩ := SR_cons hs2
      split at hst
      · next u n hla =>
        split at hst
        · next hc =>
          obtain ⟨rfl, hc1, hc2, hc3⟩ := hc
          cases hst
          refine va_zast (t0 := 2) hx hb hK hP hDD hS a (ws_get hla) rfl (oi_in hc1 hc2 hz) hd (fun H1 locs1 a1 a2 a3 => ?_)
          rw [oi_clamp hc1 hz, (nar01 hc3).2.2, ← ws_siZ hla] at a1 a2
          exact K _ _ _ rfl rfl rfl (Mx_si hM hy a1 a2 a3) hs3
        · cases hst
      · cases hst
    · cases hst
  | lastore =>
    simp only [stp] at hst
    split at hst
    · next z i a r =>
      obtain ⟨w, t, rfl, ⟨hy, rfl⟩, hs1⟩ := SR_cons hs
      obtain ⟨w, t, rfl, ⟨hz, rfl⟩, hs2⟩ := SR_cons hs1
      obtain ⟨w2, t, rfl, ⟨h3, rfl⟩, hs3⟩ := SR_cons hs2
      split at hst
      · next u n hla =>
        split at hst
        · next hc =>
          obtain ⟨rfl, hc1, hc2⟩ := hc
          cases hst
          refine va_last (t0 := 1) hx hb hK hP hDD hS a (ws_get hla) rfl (oi_in hc1 hc2 hz) hd (fun H1 locs1 a1 a2 a3 => ?_)
          rw [oi_clamp hc1 hz, ← ws_slA hla] at a1 a2
          exact K _ _ _ rfl rfl rfl (Mx_sl hM hy a1 a2 a3) hs3
        · cases hst
      · cases hst
    · cases hst
  | aastore =>
    simp only [stp] at hst
    split at hst
    · next b i a r =>
      obtain ⟨w, t, rfl, ⟨hy, rfl⟩, hs1⟩ := SR_cons hs
      obtain ⟨w, t, rfl, ⟨hz, rfl⟩, hs2⟩ := SR_cons hs1
      obtain ⟨w2, t, rfl, ⟨h3, rfl⟩, hs3⟩ := SR_cons hs2
      split at hst
      · next u n hla =>
        split at hst
        · next hc =>
          obtain ⟨rfl, hc1, hc2, hc3⟩ := hc
          cases hst
          refine va_astq (t0 := 3) (qk := b) (ci := 2) (r := (RX2, TX2, 3)) hx hb hK hP hDD hS a (ws_get hla) rfl (ws_get hc3) rfl (oi_in hc1 hc2 hz) hd (fun H1 locs1 a1 a2 a3 => ?_)
          rw [oi_clamp hc1 hz] at a1 a2
          have e9 : wsOf cI cL cZ cQ ad (sr S a i.toNat (some b)) = (wsOf cI cL cZ cQ ad S).set a (ad a, .inl (cQ, n, .inr (.inr (.inr (.inr (va_up (fun j => (gr S a j).map ad) i.toNat (some (ad b)))))))) := by
            refine ws_ext (q := (4, n)) hla rfl ?_ (fun b p hb => cell_sr b p hb)
            unfold cellOf
            simp only [show ¬ (4 = 0) by decide, show ¬ (4 = 1) by decide, show ¬ (4 = 2) by decide, show ¬ (4 = 3) by decide, if_false, Sum.inl.injEq, Prod.mk.injEq, true_and]
            refine congrArg _ (congrArg _ (congrArg _ (congrArg _ ?_)))
            funext j
            simp only [gr, sr, up2, va_up, if_true]
            split <;> rfl
          rw [← e9] at a1 a2
          exact K _ _ _ rfl rfl rfl (Mx_sr hM (List.getElem?_eq_some_iff.mp hc3).1 a1 a2 a3) hs3
        · cases hst
      · cases hst
    · cases hst
  | arraylength =>
    simp only [stp] at hst
    split at hst
    · next a r =>
      obtain ⟨w2, t, rfl, ⟨h3, rfl⟩, hs3⟩ := SR_cons hs
      obtain ⟨z, e1, e2⟩ := Option.map_eq_some_iff.mp hst
      cases e2
      unfold lnA at e1
      have had : 1000000 ≤ a → ad a = adX a := hadx a
      split at e1
      · next u n hla =>
        split at e1
        · cases e1
        · next hu =>
          cases e1
          have hn := hM.len hla
          have arr : ∃ (cA : ClassId) (x : vp_A) (ty : FieldType) (t0 : Nat), (wsOf cI cL cZ cQ ad S)[a]? = some (ad a, .inl (cA, x)) ∧ x.1 = n ∧ (tys4 cI cL cZ cQ)[t0]? = some (cA, ty) := by
            have h5 := ws_get (cI := cI) (cL := cL) (cZ := cZ) (cQ := cQ) (ad := ad) hla
            unfold cellOf at h5
            rw [if_neg (show ¬ (u, n).1 = 0 from hu)] at h5
            split at h5
            · exact ⟨_, _, _, 0, h5, rfl, rfl⟩
            · split at h5
              · exact ⟨_, _, _, 1, h5, rfl, rfl⟩
              · split at h5
                · exact ⟨_, _, _, 2, h5, rfl, rfl⟩
                · exact ⟨_, _, _, 3, h5, rfl, rfl⟩
          obtain ⟨cA, x, ty, t0, f1, f2, f3⟩ := arr
          exact va_alen hx hb hK hP a t0 f1 f3 rfl hd (K _ _ _ rfl rfl rfl hM ⟨⟨⟨by omega, by omega⟩, by rw [f2, oi_nat (by omega)]⟩, hs3⟩)
      · next hla =>
        split at e1
        · next hc =>
          subst hc
          cases e1
          rw [had (by decide)]
          have h10 := hE.2.2.2.2.2.2.2.2.2.1
          exact va_tlen hx hb hE.2.2.2.2.2.2.2.1 hS rfl hd (K _ _ _ rfl rfl rfl hM ⟨⟨⟨by omega, by omega⟩, by rw [oi_nat (by omega)]⟩, hs3⟩)
        · split at e1
          · next hc =>
            subst hc
            cases e1
            rw [had (by decide)]
            exact va_tlen hx hb hE.2.2.2.2.2.2.1 hS rfl hd (K _ _ _ rfl rfl rfl hM ⟨⟨⟨by omega, by omega⟩, rfl⟩, hs3⟩)
          · split at e1
            · next hc =>
              obtain ⟨hx1, hx2⟩ := hc
              cases e1
              have ha : 1000000 ≤ a := by unfold xByt at hx1; omega
              have hi8 : a - xByt < 8 := by omega
              have hst8 := hE.2.2.1.1 (a - xByt) hi8
              have eb : xByt + (a - xByt) = a := by omega
              dsimp only at hst8
              rw [eb] at hst8
              rw [hadx a ha]
              have hl8 : ∀ j, j < 8 → lenS.getD j 0 = (TXT.getD j []).length ∧ (TXT.getD j []).length ≤ 5 := by decide
              obtain ⟨b1, b2⟩ := hl8 _ hi8
              exact va_tlen hx hb hst8.2.2.2 hS rfl hd (K _ _ _ rfl rfl rfl hM ⟨⟨⟨by omega, by omega⟩, by rw [b1, oi_nat (by omega)]⟩, hs3⟩)
            · cases e1
    · cases hst
  | _ => exact absurd hm (by simp)
end SIMC
