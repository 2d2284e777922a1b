/-! A PLAIN STEP of the abstract machine is a step of the machine. -/
def il (I : Instr) : Nat := match I with
  | .bipush _ | .iload _ | .lload _ | .aload _ | .istore _ | .lstore _ | .astore _ | .newarray _ | .ldc _ => 2
  | .sipush _ | .ldc_w _ | .ldc2_w _ | .iinc _ _ | .getfield _ | .putfield _ | .getstatic _ | .new _ | .anewarray _ | .goto _ | .ifCond _ _ | .if_icmp _ _ | .if_acmp _ _ | .ifnull _ | .ifnonnull _ | .invokestatic _ | .invokevirtual _ | .invokespecial _ => 3
  | _ => 1
section SIM
variable {p : Program} {l : Launch} {e : Env} {R : Room} {s : State} {m : MethodId} {args : Array Value} {below : List Frame} {meth : Method} {c : Code} {H : Heap} {locs : List Loc} {cells slots : Nat} {Q : State → Prop}
variable {D : va_G} {cI cL cZ cQ : ClassId} {adX ad : Nat → Nat} {X : AX} {k pc len : Nat} {A : Nat → Prop} {I : Instr} {ax : Nat × Nat × Nat} {L L' : ALs} {st st' : List AV} {S S' : AS} {ls : Array Slot} {sv : List Value}
set_option maxHeartbeats 4000000 in
/-- constants, locals, the stack, numbers: the memory stays -/
theorem sim_a (hx : p.tables.exec = Jvm.exec) (hb : c.code = mC k) (hd : decode (mC k) pc = .ok (I, il I)) (hm : (match I with | .iconst _ | .bipush _ | .sipush _ | .lconst _ | .aconst_null | .iload _ | .iload_n _ | .lload _ | .lload_n _ | .aload _ | .aload_n _ | .istore _ | .istore_n _ | .lstore _ | .lstore_n _ | .astore _ | .astore_n _ | .iinc _ _ | .iadd | .isub | .imul | .ineg | .idiv | .irem | .iand | .ior | .ixor | .ishl | .ishr | .iushr | .i2l | .i2c | .l2i | .ladd | .lsub | .lmul | .land | .lor | .lshl | .lcmp | .dup | .dup2 | .dup_x1 | .pop => true | _ => false) = true)
    (hst : stp X I ax L st S = some (L', st', S')) {n : Nat} (hl : LR n ad (mL k) L ls) (hs : SR n ad st sv)
    (K : S' = S → ∀ ls' sv', LR n ad (mL k) L' ls' → SR n ad st' sv' → W p l e R s m args below meth c H locs cells slots Q (F0 m (pc + il I) ls' sv')) :
    W p l e R s m args below meth c H locs cells slots Q (F0 m pc ls sv) := by
  cases I with
  | iconst z =>
    simp only [stp] at hst
    split at hst
    · next h => cases hst; exact lv_iconst hx hb hd rfl (K rfl _ _ hl ⟨⟨h, rfl⟩, hs⟩)
    · cases hst
  | bipush z =>
    simp only [stp] at hst
    split at hst
    · next h =>
      cases hst
      have h2 : in32 z := ⟨by omega, by omega⟩
      refine lv_bipush (v := Int32.ofInt z) hx hb hd ?_ (K rfl _ _ hl ⟨⟨h2, rfl⟩, hs⟩)
      apply Int32.toInt_inj.mp
      rw [Int8.toInt_toInt32, ti_oi h2, Int8.toInt_ofInt_of_le (by omega) (by omega)]
    · cases hst
  | sipush z =>
    simp only [stp] at hst
    split at hst
    · next h =>
      cases hst
      have h2 : in32 z := ⟨by omega, by omega⟩
      refine lv_sipush (v := Int32.ofInt z) hx hb hd ?_ (K rfl _ _ hl ⟨⟨h2, rfl⟩, hs⟩)
      apply Int32.toInt_inj.mp
      rw [Int16.toInt_toInt32, ti_oi h2, Int16.toInt_ofInt_of_le (by omega) (by omega)]
    · cases hst
  | lconst z =>
    simp only [stp] at hst
    cases hst
    refine lv_lconst hx hb hd rfl (K rfl _ _ hl ⟨⟨⟨by have := z.isLt; omega, by have := z.isLt; omega⟩, ?_⟩, hs⟩)
    exact congrArg _ (Int64.ofInt_eq_ofNat).symm
  | aconst_null =>
    simp only [stp] at hst
    cases hst
    exact lv_null hx hb hd (K rfl _ _ hl ⟨rfl, hs⟩)
  | iload i =>
    simp only [stp] at hst
    split at hst
    · next z hz =>
      cases hst
      obtain ⟨w, h1, h2⟩ := hl.2.2.2 _ _ hz
      obtain ⟨h3, rfl⟩ := h2
      exact lv_iload hx hb hd h1 (K rfl _ _ hl ⟨⟨h3, rfl⟩, hs⟩)
    · cases hst
  | iload_n i =>
    simp only [stp] at hst
    split at hst
    · next z hz =>
      cases hst
      obtain ⟨w, h1, h2⟩ := hl.2.2.2 _ _ hz
      obtain ⟨h3, rfl⟩ := h2
      exact lv_iload_n hx hb hd rfl h1 (K rfl _ _ hl ⟨⟨h3, rfl⟩, hs⟩)
    · cases hst
  | lload i =>
    simp only [stp] at hst
    split at hst
    · next z hz =>
      cases hst
      obtain ⟨w, h1, h2⟩ := hl.2.2.2 _ _ hz
      obtain ⟨h3, rfl⟩ := h2
      exact lv_lload hx hb hd h1 (K rfl _ _ hl ⟨⟨h3, rfl⟩, hs⟩)
    · cases hst
  | lload_n i =>
    simp only [stp] at hst
    split at hst
    · next z hz =>
      cases hst
      obtain ⟨w, h1, h2⟩ := hl.2.2.2 _ _ hz
      obtain ⟨h3, rfl⟩ := h2
      exact lv_lload_n hx hb hd rfl h1 (K rfl _ _ hl ⟨⟨h3, rfl⟩, hs⟩)
    · cases hst
  | aload i =>
    simp only [stp] at hst
    split at hst
    · next r hz =>
      cases hst
      obtain ⟨w, h1, h2⟩ := hl.2.2.2 _ _ hz
      cases r with
      | none => obtain rfl := h2; exact lv_aloadN hx hb hd h1 (K rfl _ _ hl ⟨rfl, hs⟩)
      | some r => obtain ⟨h3, rfl⟩ := h2; exact lv_aload hx hb hd h1 (K rfl _ _ hl ⟨⟨h3, rfl⟩, hs⟩)
    · cases hst
  | aload_n i =>
    simp only [stp] at hst
    split at hst
    · next r hz =>
      cases hst
      obtain ⟨w, h1, h2⟩ := hl.2.2.2 _ _ hz
      cases r with
      | none => obtain rfl := h2; exact lv_aload_nN hx hb hd rfl h1 (K rfl _ _ hl ⟨rfl, hs⟩)
      | some r => obtain ⟨h3, rfl⟩ := h2; exact lv_aload_n hx hb hd rfl h1 (K rfl _ _ hl ⟨⟨h3, rfl⟩, hs⟩)
    · cases hst
  | istore i =>
    simp only [stp] at hst
    split at hst
    · next z r =>
      obtain ⟨w, t, rfl, ⟨h3, rfl⟩, hs2⟩ := SR_cons hs
      obtain ⟨L1, e1, e2⟩ := Option.map_eq_some_iff.mp hst
      cases e2
      exact lv_istore hx hb hd (lvA_has hl) (by have := st1_lt e1; have := hl.2.2.1; omega) rfl (fun ls' h' => K rfl _ _ (LR_st1 (v := vi z) hl ⟨h3, rfl⟩ e1 h') hs2)
    · cases hst
  | istore_n i =>
    simp only [stp] at hst
    split at hst
    · next z r =>
      obtain ⟨w, t, rfl, ⟨h3, rfl⟩, hs2⟩ := SR_cons hs
      obtain ⟨L1, e1, e2⟩ := Option.map_eq_some_iff.mp hst
      cases e2
      exact lv_istore_n hx hb hd rfl (lvA_has hl) (by have := st1_lt e1; have := hl.2.2.1; omega) rfl (fun ls' h' => K rfl _ _ (LR_st1 (v := vi z) hl ⟨h3, rfl⟩ e1 h') hs2)
    · cases hst
  | lstore i =>
    simp only [stp] at hst
    split at hst
    · next z r =>
      obtain ⟨w, t, rfl, ⟨h3, rfl⟩, hs2⟩ := SR_cons hs
      obtain ⟨L1, e1, e2⟩ := Option.map_eq_some_iff.mp hst
      cases e2
      exact lv_lstore hx hb hd (lvA_has hl) (by have := st2_lt e1; have := hl.2.2.1; omega) rfl (fun ls' h' => K rfl _ _ (LR_st2 (v := vl z) hl ⟨h3, rfl⟩ e1 h') hs2)
    · cases hst
  | lstore_n i =>
    simp only [stp] at hst
    split at hst
    · next z r =>
      obtain ⟨w, t, rfl, ⟨h3, rfl⟩, hs2⟩ := SR_cons hs
      obtain ⟨L1, e1, e2⟩ := Option.map_eq_some_iff.mp hst
      cases e2
      exact lv_lstore_n hx hb hd rfl (lvA_has hl) (by have := st2_lt e1; have := hl.2.2.1; omega) rfl (fun ls' h' => K rfl _ _ (LR_st2 (v := vl z) hl ⟨h3, rfl⟩ e1 h') hs2)
    · cases hst
  | astore i =>
    simp only [stp] at hst
    split at hst
    · next q r =>
      obtain ⟨w, t, rfl, h3, hs2⟩ := SR_cons hs
      obtain ⟨L1, e1, e2⟩ := Option.map_eq_some_iff.mp hst
      cases e2
      cases q with
      | none =>
        obtain rfl := h3
        exact lv_astoreN hx hb hd (lvA_has hl) (by have := st1_lt e1; have := hl.2.2.1; omega) rfl (fun ls' h' => K rfl _ _ (LR_st1 (v := vq none) hl rfl e1 h') hs2)
      | some q =>
        obtain ⟨h3, rfl⟩ := h3
        exact lv_astore hx hb hd (lvA_has hl) (by have := st1_lt e1; have := hl.2.2.1; omega) rfl (fun ls' h' => K rfl _ _ (LR_st1 (v := vr q) hl ⟨h3, rfl⟩ e1 h') hs2)
    · next q r =>
      obtain ⟨w, t, rfl, h3, hs2⟩ := SR_cons hs
      obtain ⟨L1, e1, e2⟩ := Option.map_eq_some_iff.mp hst
      cases e2
      rcases h3 with rfl | ⟨q, rfl⟩
      · exact lv_astoreN hx hb hd (lvA_has hl) (by have := st1_lt e1; have := hl.2.2.1; omega) rfl (fun ls' h' => K rfl _ _ (LR_st1 (v := vj) hl (Or.inl rfl) e1 h') hs2)
      · exact lv_astore hx hb hd (lvA_has hl) (by have := st1_lt e1; have := hl.2.2.1; omega) rfl (fun ls' h' => K rfl _ _ (LR_st1 (v := vj) hl (Or.inr ⟨q, rfl⟩) e1 h') hs2)
    · cases hst
  | astore_n i =>
    simp only [stp] at hst
    split at hst
    · next q r =>
      obtain ⟨w, t, rfl, h3, hs2⟩ := SR_cons hs
      obtain ⟨L1, e1, e2⟩ := Option.map_eq_some_iff.mp hst
      cases e2
      cases q with
      | none =>
        obtain rfl := h3
        exact lv_astore_nN hx hb hd rfl (lvA_has hl) (by have := st1_lt e1; have := hl.2.2.1; omega) rfl (fun ls' h' => K rfl _ _ (LR_st1 (v := vq none) hl rfl e1 h') hs2)
      | some q =>
        obtain ⟨h3, rfl⟩ := h3
        exact lv_astore_n hx hb hd rfl (lvA_has hl) (by have := st1_lt e1; have := hl.2.2.1; omega) rfl (fun ls' h' => K rfl _ _ (LR_st1 (v := vr q) hl ⟨h3, rfl⟩ e1 h') hs2)
    · next q r =>
      obtain ⟨w, t, rfl, h3, hs2⟩ := SR_cons hs
      obtain ⟨L1, e1, e2⟩ := Option.map_eq_some_iff.mp hst
      cases e2
      rcases h3 with rfl | ⟨q, rfl⟩
      · exact lv_astore_nN hx hb hd rfl (lvA_has hl) (by have := st1_lt e1; have := hl.2.2.1; omega) rfl (fun ls' h' => K rfl _ _ (LR_st1 (v := vj) hl (Or.inl rfl) e1 h') hs2)
      · exact lv_astore_n hx hb hd rfl (lvA_has hl) (by have := st1_lt e1; have := hl.2.2.1; omega) rfl (fun ls' h' => K rfl _ _ (LR_st1 (v := vj) hl (Or.inr ⟨q, rfl⟩) e1 h') hs2)
    · cases hst
  | iinc i z =>
    simp only [stp] at hst
    split at hst
    · next y hz =>
      obtain ⟨L1, e1, e2⟩ := Option.map_eq_some_iff.mp hst
      cases e2
      obtain ⟨w, h1, h2⟩ := hl.2.2.2 _ _ hz
      obtain ⟨h3, rfl⟩ := h2
      obtain ⟨j, hj⟩ := List.getElem?_of_mem (lvA_mem.mpr h1)
      refine lv_iinc (v := Int32.ofInt (w32 (y + z))) hx hb hd (lvA_has hl) hj (oi_add y z) (by have := st1_lt e1; have := hl.2.2.1; omega) rfl (fun ls' h' => K rfl _ _ (LR_st1 (v := vi (w32 (y + z))) hl ⟨in32_ti _, rfl⟩ e1 h') hs)
    · cases hst
  | iadd =>
    simp only [stp] at hst
    split at hst
    · next y x r =>
      cases hst
      obtain ⟨w, t, rfl, ⟨hy, rfl⟩, hs2⟩ := SR_cons hs
      obtain ⟨w, t, rfl, ⟨hx2, rfl⟩, hs3⟩ := SR_cons hs2
      refine lv_iadd hx hb hd ?_
      refine K rfl _ _ hl ⟨⟨in32_ti _, ?_⟩, hs3⟩
      exact congrArg _ (oi_add x y)
    · cases hst
  | isub =>
    simp only [stp] at hst
    split at hst
    · next y x r =>
      cases hst
      obtain ⟨w, t, rfl, ⟨hy, rfl⟩, hs2⟩ := SR_cons hs
      obtain ⟨w, t, rfl, ⟨hx2, rfl⟩, hs3⟩ := SR_cons hs2
      refine lv_isub hx hb hd ?_
      refine K rfl _ _ hl ⟨⟨in32_ti _, ?_⟩, hs3⟩
      exact congrArg _ (oi_sub x y)
    · cases hst
  | imul =>
    simp only [stp] at hst
    split at hst
    · next y x r =>
      cases hst
      obtain ⟨w, t, rfl, ⟨hy, rfl⟩, hs2⟩ := SR_cons hs
      obtain ⟨w, t, rfl, ⟨hx2, rfl⟩, hs3⟩ := SR_cons hs2
      refine lv_imul hx hb hd ?_
      refine K rfl _ _ hl ⟨⟨in32_ti _, ?_⟩, hs3⟩
      exact congrArg _ (oi_mul x y)
    · cases hst
  | iand =>
    simp only [stp] at hst
    split at hst
    · next y x r =>
      cases hst
      obtain ⟨w, t, rfl, ⟨hy, rfl⟩, hs2⟩ := SR_cons hs
      obtain ⟨w, t, rfl, ⟨hx2, rfl⟩, hs3⟩ := SR_cons hs2
      refine lv_iand hx hb hd ?_
      refine K rfl _ _ hl ⟨⟨in32_ti _, ?_⟩, hs3⟩
      exact congrArg _ (oi_ti _).symm
    · cases hst
  | ior =>
    simp only [stp] at hst
    split at hst
    · next y x r =>
      cases hst
      obtain ⟨w, t, rfl, ⟨hy, rfl⟩, hs2⟩ := SR_cons hs
      obtain ⟨w, t, rfl, ⟨hx2, rfl⟩, hs3⟩ := SR_cons hs2
      refine lv_ior hx hb hd ?_
      refine K rfl _ _ hl ⟨⟨in32_ti _, ?_⟩, hs3⟩
      exact congrArg _ (oi_ti _).symm
    · cases hst
  | ixor =>
    simp only [stp] at hst
    split at hst
    · next y x r =>
      cases hst
      obtain ⟨w, t, rfl, ⟨hy, rfl⟩, hs2⟩ := SR_cons hs
      obtain ⟨w, t, rfl, ⟨hx2, rfl⟩, hs3⟩ := SR_cons hs2
      refine lv_ixor hx hb hd ?_
      refine K rfl _ _ hl ⟨⟨in32_ti _, ?_⟩, hs3⟩
      exact congrArg _ (oi_ti _).symm
    · cases hst
  | ishl =>
    simp only [stp] at hst
    split at hst
    · next y x r =>
      cases hst
      obtain ⟨w, t, rfl, ⟨hy, rfl⟩, hs2⟩ := SR_cons hs
      obtain ⟨w, t, rfl, ⟨hx2, rfl⟩, hs3⟩ := SR_cons hs2
      refine lv_ishl hx hb hd ?_
      refine K rfl _ _ hl ⟨⟨in32_ti _, ?_⟩, hs3⟩
      exact congrArg _ (oi_ti _).symm
    · cases hst
  | ishr =>
    simp only [stp] at hst
    split at hst
    · next y x r =>
      cases hst
      obtain ⟨w, t, rfl, ⟨hy, rfl⟩, hs2⟩ := SR_cons hs
      obtain ⟨w, t, rfl, ⟨hx2, rfl⟩, hs3⟩ := SR_cons hs2
      refine lv_ishr hx hb hd ?_
      refine K rfl _ _ hl ⟨⟨in32_ti _, ?_⟩, hs3⟩
      exact congrArg _ (oi_ti _).symm
    · cases hst
  | iushr =>
    simp only [stp] at hst
    split at hst
    · next y x r =>
      cases hst
      obtain ⟨w, t, rfl, ⟨hy, rfl⟩, hs2⟩ := SR_cons hs
      obtain ⟨w, t, rfl, ⟨hx2, rfl⟩, hs3⟩ := SR_cons hs2
      refine lv_iushr hx hb hd rfl ?_
      refine K rfl _ _ hl ⟨⟨in32_ti _, ?_⟩, hs3⟩
      exact congrArg _ (oi_ti _).symm
    · cases hst
  | ladd =>
    simp only [stp] at hst
    split at hst
    · next y x r =>
      cases hst
      obtain ⟨w, t, rfl, ⟨hy, rfl⟩, hs2⟩ := SR_cons hs
      obtain ⟨w, t, rfl, ⟨hx2, rfl⟩, hs3⟩ := SR_cons hs2
      refine lv_ladd hx hb hd ?_
      refine K rfl _ _ hl ⟨⟨in64_ti _, ?_⟩, hs3⟩
      exact congrArg _ (ol_add x y)
    · cases hst
  | lsub =>
    simp only [stp] at hst
    split at hst
    · next y x r =>
      cases hst
      obtain ⟨w, t, rfl, ⟨hy, rfl⟩, hs2⟩ := SR_cons hs
      obtain ⟨w, t, rfl, ⟨hx2, rfl⟩, hs3⟩ := SR_cons hs2
      refine lv_lsub hx hb hd ?_
      refine K rfl _ _ hl ⟨⟨in64_ti _, ?_⟩, hs3⟩
      exact congrArg _ (ol_sub x y)
    · cases hst
  | lmul =>
    simp only [stp] at hst
    split at hst
    · next y x r =>
      cases hst
      obtain ⟨w, t, rfl, ⟨hy, rfl⟩, hs2⟩ := SR_cons hs
      obtain ⟨w, t, rfl, ⟨hx2, rfl⟩, hs3⟩ := SR_cons hs2
      refine lv_lmul hx hb hd ?_
      refine K rfl _ _ hl ⟨⟨in64_ti _, ?_⟩, hs3⟩
      exact congrArg _ (ol_mul x y)
    · cases hst
  | land =>
    simp only [stp] at hst
    split at hst
    · next y x r =>
      cases hst
      obtain ⟨w, t, rfl, ⟨hy, rfl⟩, hs2⟩ := SR_cons hs
      obtain ⟨w, t, rfl, ⟨hx2, rfl⟩, hs3⟩ := SR_cons hs2
      refine lv_land hx hb hd ?_
      refine K rfl _ _ hl ⟨⟨in64_ti _, ?_⟩, hs3⟩
      exact congrArg _ (ol_ti _).symm
    · cases hst
  | lor =>
    simp only [stp] at hst
    split at hst
    · next y x r =>
      cases hst
      obtain ⟨w, t, rfl, ⟨hy, rfl⟩, hs2⟩ := SR_cons hs
      obtain ⟨w, t, rfl, ⟨hx2, rfl⟩, hs3⟩ := SR_cons hs2
      refine lv_lor hx hb hd ?_
      refine K rfl _ _ hl ⟨⟨in64_ti _, ?_⟩, hs3⟩
      exact congrArg _ (ol_ti _).symm
    · cases hst
  | lshl =>
    simp only [stp] at hst
    split at hst
    · next y x r =>
      cases hst
      obtain ⟨w, t, rfl, ⟨hy, rfl⟩, hs2⟩ := SR_cons hs
      obtain ⟨w, t, rfl, ⟨hx2, rfl⟩, hs3⟩ := SR_cons hs2
      refine lv_lshl hx hb hd rfl ?_
      refine K rfl _ _ hl ⟨⟨in64_ti _, ?_⟩, hs3⟩
      exact congrArg _ (ol_ti _).symm
    · cases hst
  | idiv =>
    simp only [stp] at hst
    split at hst
    · next y x r =>
      split at hst
      · cases hst
      · next h0 =>
      cases hst
      obtain ⟨w, t, rfl, ⟨hy, rfl⟩, hs2⟩ := SR_cons hs
      obtain ⟨w, t, rfl, ⟨hx2, rfl⟩, hs3⟩ := SR_cons hs2
      refine lv_idiv hx hb hd (fun q => h0 ((oi_eq hy in32_0).mp q)) ?_
      refine K rfl _ _ hl ⟨⟨in32_ti _, ?_⟩, hs3⟩
      exact congrArg _ (oi_ti _).symm
    · cases hst
  | irem =>
    simp only [stp] at hst
    split at hst
    · next y x r =>
      split at hst
      · cases hst
      · next h0 =>
      cases hst
      obtain ⟨w, t, rfl, ⟨hy, rfl⟩, hs2⟩ := SR_cons hs
      obtain ⟨w, t, rfl, ⟨hx2, rfl⟩, hs3⟩ := SR_cons hs2
      refine lv_irem hx hb hd (fun q => h0 ((oi_eq hy in32_0).mp q)) ?_
      refine K rfl _ _ hl ⟨⟨in32_ti _, ?_⟩, hs3⟩
      exact congrArg _ (oi_ti _).symm
    · cases hst
  | ineg =>
    simp only [stp] at hst
    split at hst
    · next x r =>
      cases hst
      obtain ⟨w, t, rfl, ⟨hx2, rfl⟩, hs3⟩ := SR_cons hs
      refine lv_ineg hx hb hd ?_
      refine K rfl _ _ hl ⟨⟨in32_ti _, ?_⟩, hs3⟩
      exact congrArg _ (oi_neg x)
    · cases hst
  | i2l =>
    simp only [stp] at hst
    split at hst
    · next x r =>
      cases hst
      obtain ⟨w, t, rfl, ⟨hx2, rfl⟩, hs3⟩ := SR_cons hs
      refine lv_i2l hx hb hd (oi_i2l hx2) ?_
      exact K rfl _ _ hl ⟨⟨⟨by have := hx2.1; omega, by have := hx2.2; omega⟩, rfl⟩, hs3⟩
    · cases hst
  | i2c =>
    simp only [stp] at hst
    split at hst
    · next x r =>
      cases hst
      obtain ⟨w, t, rfl, ⟨hx2, rfl⟩, hs3⟩ := SR_cons hs
      refine lv_i2c hx hb hd rfl ?_
      refine K rfl _ _ hl ⟨⟨in32_ti _, ?_⟩, hs3⟩
      exact congrArg _ (oi_ti _).symm
    · cases hst
  | l2i =>
    simp only [stp] at hst
    split at hst
    · next x r =>
      cases hst
      obtain ⟨w, t, rfl, ⟨hx2, rfl⟩, hs3⟩ := SR_cons hs
      refine lv_l2i hx hb hd (oi_l2i x) ?_
      exact K rfl _ _ hl ⟨⟨in32_ti _, rfl⟩, hs3⟩
    · cases hst
  | lcmp =>
    simp only [stp] at hst
    split at hst
    · next y x r =>
      cases hst
      obtain ⟨w, t, rfl, ⟨hy, rfl⟩, hs2⟩ := SR_cons hs
      obtain ⟨w, t, rfl, ⟨hx2, rfl⟩, hs3⟩ := SR_cons hs2
      refine W.lcmp hx hb hd ?_
      refine K rfl _ _ hl ⟨⟨in32_cmp _ _, ?_⟩, hs3⟩
      exact congrArg _ (oi_cmp hx2 hy)
    · cases hst
  | dup =>
    simp only [stp] at hst
    split at hst
    · next x r =>
      cases hst
      obtain ⟨w, t, rfl, h3, hs3⟩ := SR_cons hs
      exact lv_dup hx hb hd (tv_cat h3) (K rfl _ _ hl ⟨h3, h3, hs3⟩)
    · next x r =>
      cases hst
      obtain ⟨w, t, rfl, h3, hs3⟩ := SR_cons hs
      exact lv_dup hx hb hd (tv_cat h3) (K rfl _ _ hl ⟨h3, h3, hs3⟩)
    · cases hst
  | dup2 =>
    simp only [stp] at hst
    split at hst
    · next x r =>
      cases hst
      obtain ⟨w, t, rfl, h3, hs3⟩ := SR_cons hs
      exact lv_dup2_2 hx hb hd (tv_cat h3) (K rfl _ _ hl ⟨h3, h3, hs3⟩)
    · next y x r =>
      cases hst
      obtain ⟨w, t, rfl, h3, hs2⟩ := SR_cons hs
      obtain ⟨w, t, rfl, h4, hs3⟩ := SR_cons hs2
      exact lv_dup2_11 hx hb hd (tv_cat h3) (tv_cat h4) (K rfl _ _ hl ⟨h3, h4, h3, h4, hs3⟩)
    · next y x r =>
      cases hst
      obtain ⟨w, t, rfl, h3, hs2⟩ := SR_cons hs
      obtain ⟨w, t, rfl, h4, hs3⟩ := SR_cons hs2
      exact lv_dup2_11 hx hb hd (tv_cat h3) (tv_cat h4) (K rfl _ _ hl ⟨h3, h4, h3, h4, hs3⟩)
    · cases hst
  | dup_x1 =>
    simp only [stp] at hst
    split at hst
    · next y x r =>
      cases hst
      obtain ⟨w, t, rfl, h3, hs2⟩ := SR_cons hs
      obtain ⟨w, t, rfl, h4, hs3⟩ := SR_cons hs2
      exact lv_dup_x1 hx hb hd (tv_cat h3) (tv_cat h4) (K rfl _ _ hl ⟨h3, h4, h3, hs3⟩)
    · cases hst
  | pop =>
    simp only [stp] at hst
    split at hst
    · next x r =>
      cases hst
      obtain ⟨w, t, rfl, h3, hs3⟩ := SR_cons hs
      exact lv_pop hx hb hd (tv_cat h3) (K rfl _ _ hl hs3)
    · next x r =>
      cases hst
      obtain ⟨w, t, rfl, h3, hs3⟩ := SR_cons hs
      exact lv_pop hx hb hd (tv_cat h3) (K rfl _ _ hl hs3)
    · cases hst
  | _ => exact absurd hm (by simp)
end SIM
