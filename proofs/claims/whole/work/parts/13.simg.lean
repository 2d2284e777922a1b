/-! CONTROL STEPS within a method: jumps and switches. -/
theorem jmp_spec {fr : AF} {off : Int} {r : List AV} {S S' : AS} {fr' : AF} (h : jmp fr off r S = some (.inl (fr', S'))) : (fr.1 : Int) + off = (tgt fr.1 off : Int) ∧ fr' = (tgt fr.1 off, fr.2.1, r) ∧ S' = S := by
  unfold jmp at h
  split at h
  · next h0 =>
    cases h
    exact ⟨(Int.toNat_of_nonneg h0).symm, rfl, rfl⟩
  · cases h
section SIMG
variable {p : Program} {l : Launch} {e : Env} {R : Room} {s : State} {m : MethodId} {args : Array Value} {below : List Frame} {meth : Method} {c : Code} {H : Heap} {locs : List Loc} {cells slots : Nat} {Q : State → Prop}
variable {D : va_G} {cI cL cZ cQ : ClassId} {adX ad : Nat → Nat} {X : AX} {k pc len : Nat} {A : Nat → Prop} {I : Instr} {ax : Nat × Nat × Nat} {L L' : ALs} {st st' : List AV} {S S' : AS} {ls : Array Slot} {sv : List Value}
set_option maxHeartbeats 4000000 in
theorem sim_d {fr' : AF} (hx : p.tables.exec = Jvm.exec) (hb : c.code = mC k) (hd : decode (mC k) pc = .ok (I, len)) (hlen : (match I with | .tableswitch .. | .lookupswitch .. => True | _ => len = il I))
    (hm : (match I with | .goto _ | .ifCond _ _ | .if_icmp _ _ | .ifnull _ | .ifnonnull _ | .if_acmp _ _ | .tableswitch _ _ _ _ | .lookupswitch _ _ => true | _ => false) = true)
    (hc : ctl I len ax (pc, L, st) S = some (.inl (fr', S'))) (hs : SR (lay S).length ad st sv) (had : ∀ a b, a < (lay S).length → b < (lay S).length → ad a = ad b → a = b)
    (K : ∀ sv', S' = S → fr'.2.1 = L → SR (lay S).length ad fr'.2.2 sv' → W p l e R s m args below meth c H locs cells slots Q (F0 m fr'.1 ls sv')) :
    W p l e R s m args below meth c H locs cells slots Q (F0 m pc ls sv) := by
  have J : ∀ {off r t}, jmp (pc, L, st) off r S = some (.inl (fr', S')) → SR (lay S).length ad r t → (pc : Int) + off = (tgt pc off : Int) ∧ W p l e R s m args below meth c H locs cells slots Q (F0 m (tgt pc off) ls t) := by
    intro off r t h h2
    obtain ⟨h1, rfl, h3⟩ := jmp_spec h
    exact ⟨h1, K t h3 rfl h2⟩
  cases I with
  | goto off =>
    simp only [ctl] at hc
    obtain ⟨j1, j2⟩ := J hc hs
    obtain rfl : len = 3 := hlen
    exact lv_goto hx hb hd j1 j2
  | ifCond cc off =>
    obtain rfl : len = 3 := hlen
    simp only [ctl] at hc
    split at hc
    · next _ x r =>
      obtain ⟨w, t, rfl, ⟨hz, rfl⟩, hs2⟩ := SR_cons hs
      split at hc
      · next hp =>
        have j1 : (pc : Int) + off = (tgt pc off : Int) := (Int.toNat_of_nonneg hp).symm
        split at hc
        · next q =>
          cases hc
          have j2 := K t rfl rfl hs2
          cases cc <;> simp only [cHold, decide_eq_true_eq] at q
          · exact lv_if_eq hx hb hd j1 (fun _ => j2) (fun y => absurd ((oi_eq hz in32_0).mpr q) y)
          · exact lv_if_ne hx hb hd j1 (fun _ => j2) (fun y => absurd ((oi_eq hz in32_0).mp y) q)
          · exact lv_if_lt hx hb hd j1 (fun _ => j2) (fun y => absurd ((oi_lt hz in32_0).mpr q) y)
          · exact lv_if_ge hx hb hd j1 (fun _ => j2) (fun y => absurd ((oi_le in32_0 hz).mpr q) y)
          · exact lv_if_gt hx hb hd j1 (fun _ => j2) (fun y => absurd ((oi_lt in32_0 hz).mpr q) y)
          · exact lv_if_le hx hb hd j1 (fun _ => j2) (fun y => absurd ((oi_le hz in32_0).mpr q) y)
        · next q =>
          cases hc
          have f := K t rfl rfl hs2
          cases cc <;> simp only [cHold, decide_eq_true_eq] at q
          · exact lv_if_eq hx hb hd j1 (fun y => absurd ((oi_eq hz in32_0).mp y) q) (fun _ => f)
          · exact lv_if_ne hx hb hd j1 (fun y => absurd (fun z => y ((oi_eq hz in32_0).mpr z)) q) (fun _ => f)
          · exact lv_if_lt hx hb hd j1 (fun y => absurd ((oi_lt hz in32_0).mp y) q) (fun _ => f)
          · exact lv_if_ge hx hb hd j1 (fun y => absurd ((oi_le in32_0 hz).mp y) q) (fun _ => f)
          · exact lv_if_gt hx hb hd j1 (fun y => absurd ((oi_lt in32_0 hz).mp y) q) (fun _ => f)
          · exact lv_if_le hx hb hd j1 (fun y => absurd ((oi_le hz in32_0).mp y) q) (fun _ => f)
      · cases hc
    · cases hc
  | if_icmp cc off =>
    obtain rfl : len = 3 := hlen
    simp only [ctl] at hc
    split at hc
    · next _ y x r =>
      obtain ⟨w, t, rfl, ⟨hy, rfl⟩, hs1⟩ := SR_cons hs
      obtain ⟨w, t, rfl, ⟨hz, rfl⟩, hs2⟩ := SR_cons hs1
      split at hc
      · next hp =>
        have j1 : (pc : Int) + off = (tgt pc off : Int) := (Int.toNat_of_nonneg hp).symm
        split at hc
        · next q =>
          cases hc
          have j2 := K t rfl rfl hs2
          cases cc <;> simp only [cHold, decide_eq_true_eq] at q
          · exact lv_icmp_eq hx hb hd j1 (fun _ => j2) (fun y => absurd ((oi_eq hz hy).mpr q) y)
          · exact lv_icmp_ne hx hb hd j1 (fun _ => j2) (fun y => absurd ((oi_eq hz hy).mp y) q)
          · exact lv_icmp_lt hx hb hd j1 (fun _ => j2) (fun y => absurd ((oi_lt hz hy).mpr q) y)
          · exact lv_icmp_ge hx hb hd j1 (fun _ => j2) (fun y => absurd ((oi_le hy hz).mpr q) y)
          · exact lv_icmp_gt hx hb hd j1 (fun _ => j2) (fun y => absurd ((oi_lt hy hz).mpr q) y)
          · exact lv_icmp_le hx hb hd j1 (fun _ => j2) (fun y => absurd ((oi_le hz hy).mpr q) y)
        · next q =>
          cases hc
          have f := K t rfl rfl hs2
          cases cc <;> simp only [cHold, decide_eq_true_eq] at q
          · exact lv_icmp_eq hx hb hd j1 (fun y => absurd ((oi_eq hz hy).mp y) q) (fun _ => f)
          · exact lv_icmp_ne hx hb hd j1 (fun y => absurd (fun z => y ((oi_eq hz hy).mpr z)) q) (fun _ => f)
          · exact lv_icmp_lt hx hb hd j1 (fun y => absurd ((oi_lt hz hy).mp y) q) (fun _ => f)
          · exact lv_icmp_ge hx hb hd j1 (fun y => absurd ((oi_le hy hz).mp y) q) (fun _ => f)
          · exact lv_icmp_gt hx hb hd j1 (fun y => absurd ((oi_lt hy hz).mp y) q) (fun _ => f)
          · exact lv_icmp_le hx hb hd j1 (fun y => absurd ((oi_le hz hy).mp y) q) (fun _ => f)
      · cases hc
    · cases hc
  | ifnull off =>
    obtain rfl : len = 3 := hlen
    simp only [ctl] at hc
    split at hc
    · next _ r =>
      obtain ⟨w, t, rfl, h3, hs2⟩ := SR_cons hs
      obtain rfl := h3
      obtain ⟨j1, j2⟩ := J hc hs2
      exact lv_ifnullN hx hb hd j1 j2
    · next _ a r =>
      obtain ⟨w, t, rfl, ⟨h3, rfl⟩, hs2⟩ := SR_cons hs
      cases hc
      exact lv_ifnull hx hb hd (K t rfl rfl hs2)
    · cases hc
  | ifnonnull off =>
    obtain rfl : len = 3 := hlen
    simp only [ctl] at hc
    split at hc
    · next _ r =>
      obtain ⟨w, t, rfl, h3, hs2⟩ := SR_cons hs
      obtain rfl := h3
      cases hc
      exact lv_ifnonnullN hx hb hd (K t rfl rfl hs2)
    · next _ a r =>
      obtain ⟨w, t, rfl, ⟨h3, rfl⟩, hs2⟩ := SR_cons hs
      obtain ⟨j1, j2⟩ := J hc hs2
      exact lv_ifnonnull hx hb hd j1 j2
    · cases hc
  | if_acmp cc off =>
    obtain rfl : len = 3 := hlen
    simp only [ctl] at hc
    split at hc
    · next _ b a r =>
      obtain ⟨w, t, rfl, ⟨hy, rfl⟩, hs1⟩ := SR_cons hs
      obtain ⟨w, t, rfl, ⟨hz, rfl⟩, hs2⟩ := SR_cons hs1
      split at hc
      · next hab =>
        have inj : some (ad a) = some (ad b) ↔ a = b := ⟨fun h => had _ _ hab.1 hab.2 (Option.some.inj h), fun h => by rw [h]⟩
        cases cc with
        | eq =>
          simp only at hc
          split at hc
          · next hp =>
            have j1 : (pc : Int) + off = (tgt pc off : Int) := (Int.toNat_of_nonneg hp).symm
            split at hc
            · next q => cases hc; exact lv_acmp_eq (rx := some (ad a)) (ry := some (ad b)) hx hb hd j1 (fun _ => K t rfl rfl hs2) (fun y => absurd (inj.mpr q) y)
            · next q => cases hc; exact lv_acmp_eq (rx := some (ad a)) (ry := some (ad b)) hx hb hd j1 (fun y => absurd (inj.mp y) q) (fun _ => K t rfl rfl hs2)
          · cases hc
        | ne =>
          simp only at hc
          split at hc
          · next hp =>
            have j1 : (pc : Int) + off = (tgt pc off : Int) := (Int.toNat_of_nonneg hp).symm
            split at hc
            · next q => cases hc; exact lv_acmp_ne (rx := some (ad a)) (ry := some (ad b)) hx hb hd j1 (fun y => absurd (inj.mpr q) y) (fun _ => K t rfl rfl hs2)
            · next q => cases hc; exact lv_acmp_ne (rx := some (ad a)) (ry := some (ad b)) hx hb hd j1 (fun _ => K t rfl rfl hs2) (fun y => absurd (inj.mp y) q)
          · cases hc
      · cases hc
    · cases hc
  | tableswitch d lo hi offs =>
    simp only [ctl] at hc
    split at hc
    · next _ x r =>
      obtain ⟨w, t, rfl, ⟨hz, rfl⟩, hs2⟩ := SR_cons hs
      have ht := ti_oi hz
      split at hc
      · next q =>
        obtain ⟨j1, j2⟩ := J hc hs2
        exact lv_tableOut hx hb hd (by rw [ht]; exact q) j1 j2
      · next q =>
        split at hc
        · next o ho =>
          obtain ⟨j1, j2⟩ := J hc hs2
          exact lv_tableIn hx hb hd (by rw [ht]; omega) (by rw [ht]; omega) (by rw [ht]; exact ho) j1 j2
        · cases hc
    · cases hc
  | lookupswitch d ps =>
    simp only [ctl] at hc
    split at hc
    · next _ x r =>
      obtain ⟨w, t, rfl, ⟨hz, rfl⟩, hs2⟩ := SR_cons hs
      have ht := ti_oi hz
      split at hc
      · next q =>
        obtain ⟨j1, j2⟩ := J hc hs2
        exact lv_lookup hx hb hd q (by rw [ht]) j1 j2
      · cases hc
    · cases hc
  | _ => exact absurd hm (by simp)
end SIMG
