/-! COPIES of sets (printed by gen/g51.py) -/
def cpF (f : F2) (a b n : Nat) : F2 := fun x j => if x = a then (if j < n then f b j else f x j) else f x j
theorem cpF_at {f : F2} {a b n j : Nat} (h : j < n) : cpF f a b n a j = f b j := by simp [cpF, h]
theorem cpF_ne {f : F2} {a b n x : Nat} (h : x ≠ a) : cpF f a b n x = f x := by funext j; simp [cpF, h]
section
variable {X : AX} {k pc : Nat} {L : ALs} {r : List AV} {Q : (Option AV ⊕ Nat) → AS → Prop} {I J : Nat → Nat → Int} {c s q a b n na nb y z : Nat}
theorem ev_aci (hcd : cdAt k pc = some (.invokestatic q, 3, (5, y, z))) (ha : LAY0[a]? = some (1, na)) (hb : LAY0[b]? = some (1, nb)) (h1 : n ≤ na) (h2 : n ≤ nb) (h3 : (r.map acat).sum ≤ 8) (he : Ev X k (pc + 3, L, r) (MS (cpF I a b n) J c s) Q) : Ev X k (pc, L, vi (n : Int) :: vi 0 :: vr a :: vi 0 :: vr b :: r) (MS I J c s) Q := by
  refine ev_1 (fr' := (pc + 3, L, r)) (S' := MS (cpF I a b n) J c s) ?_ he
  unfold sp1; simp only [hcd]
  have hst : stp X (.invokestatic q) (5, y, z) L (vi (n : Int) :: vi 0 :: vr a :: vi 0 :: vr b :: r) (MS I J c s) = none := rfl
  have e : ctl (.invokestatic q) 3 (5, y, z) (pc, L, vi (n : Int) :: vi 0 :: vr a :: vi 0 :: vr b :: r) (MS I J c s) = some (.inl ((pc + 3, L, r), MS (cpF I a b n) J c s)) := by
    simp only [ctl, ha, hb]
    rw [if_neg (by decide), if_pos trivial, if_pos ⟨by omega, by omega, by omega, by omega, by omega, h3⟩]
    have : (fun x j => if x = a then if (0 : Int).toNat ≤ j ∧ j < (0 : Int).toNat + (n : Int).toNat then I b ((0 : Int).toNat + (j - (0 : Int).toNat)) else I x j else I x j) = cpF I a b n := by
      funext x j; simp [cpF]
    rw [this]
  simp only [hst, e]
theorem ev_acl (hcd : cdAt k pc = some (.invokestatic q, 3, (6, y, z))) (ha : LAY0[a]? = some (2, na)) (hb : LAY0[b]? = some (2, nb)) (h1 : n ≤ na) (h2 : n ≤ nb) (h3 : (r.map acat).sum ≤ 8) (he : Ev X k (pc + 3, L, r) (MS I (cpF J a b n) c s) Q) : Ev X k (pc, L, vi (n : Int) :: vi 0 :: vr a :: vi 0 :: vr b :: r) (MS I J c s) Q := by
  refine ev_1 (fr' := (pc + 3, L, r)) (S' := MS I (cpF J a b n) c s) ?_ he
  unfold sp1; simp only [hcd]
  have hst : stp X (.invokestatic q) (6, y, z) L (vi (n : Int) :: vi 0 :: vr a :: vi 0 :: vr b :: r) (MS I J c s) = none := rfl
  have e : ctl (.invokestatic q) 3 (6, y, z) (pc, L, vi (n : Int) :: vi 0 :: vr a :: vi 0 :: vr b :: r) (MS I J c s) = some (.inl ((pc + 3, L, r), MS I (cpF J a b n) c s)) := by
    simp only [ctl, ha, hb]
    rw [if_neg (by decide), if_neg (by decide), if_pos trivial, if_pos ⟨by omega, by omega, by omega, by omega, by omega, h3⟩]
    have : (fun x j => if x = a then if (0 : Int).toNat ≤ j ∧ j < (0 : Int).toNat + (n : Int).toNat then J b ((0 : Int).toNat + (j - (0 : Int).toNat)) else J x j else J x j) = cpF J a b n := by
      funext x j; simp [cpF]
    rw [this]
  simp only [hst, e]
end
def cpS (I : F2) (a b : Nat) : F2 := cpF (cpF (up2 I a 2 (I b 2)) (a + 1) (b + 1) 5) (a + 2) (b + 2) 5
def cpR (I : F2) (a b n : Nat) : F2 := cpF (cpF (up2 I a 4 (I b 4)) (a + 2) (b + 2) 8) (a + 3) (b + 3) n
def cpA (I : F2) (a b : Nat) : F2 := cpR (cpR (cpS I (a + 1) (b + 1)) (a + 4) (b + 4) 288) (a + 8) (b + 8) 144
def cpJ (J : F2) (a b : Nat) : F2 := cpF (cpF J (a + 5) (b + 5) 8) (a + 9) (b + 9) 8
theorem cpS_ne {I : F2} {a b c : Nat} (h : c < a ∨ a + 2 < c) : cpS I a b c = I c := by
  unfold cpS; rw [cpF_ne (by omega), cpF_ne (by omega), up2_row _ _ _ _ (by omega)]
theorem cpR_ne {I : F2} {a b n c : Nat} (h : c < a ∨ a + 3 < c ∨ c = a + 1) : cpR I a b n c = I c := by
  unfold cpR; rw [cpF_ne (by omega), cpF_ne (by omega), up2_row _ _ _ _ (by omega)]
/-- the class's set at cell b is g -/
def SetR (I J : F2) (b : Nat) (g : F1) : Prop := SRep I b g ∧ PRep I J (b + 4) g ∧ IRep I J (b + 8) g
theorem SetR.cell {I I' J J' : F2} {b : Nat} {g : F1} (h : SetR I J b g) (e : ∀ c, b < c → c < b + 12 → I' c = I c ∧ J' c = J c) : SetR I' J' b g := by
  unfold SetR SRep PRep IRep at *
  rw [(e (b + 1) (by omega) (by omega)).1, (e (b + 2) (by omega) (by omega)).1, (e (b + 3) (by omega) (by omega)).1, (e (b + 4) (by omega) (by omega)).1, (e (b + 4 + 1) (by omega) (by omega)).2, (e (b + 4 + 2) (by omega) (by omega)).1, (e (b + 4 + 3) (by omega) (by omega)).1, (e (b + 8) (by omega) (by omega)).1, (e (b + 8 + 1) (by omega) (by omega)).2, (e (b + 8 + 2) (by omega) (by omega)).1, (e (b + 8 + 3) (by omega) (by omega)).1]
  exact h
theorem cpA_ne {I : F2} {a b c : Nat} (h : c ≤ a ∨ a + 12 ≤ c) : cpA I a b c = I c := by
  unfold cpA; rw [cpR_ne (by omega), cpR_ne (by omega), cpS_ne (by omega)]
theorem cpJ_ne {J : F2} {a b c : Nat} (h : c ≤ a ∨ a + 12 ≤ c) : cpJ J a b c = J c := by
  unfold cpJ; rw [cpF_ne (by omega), cpF_ne (by omega)]
theorem cpS_rep {I : F2} {a b : Nat} {g : F1} (h : SRep I b g) (hw : WS g) (hab : a + 12 ≤ b ∨ b + 12 ≤ a) : SRep (cpS I (a + 1) (b + 1)) a g := by
  refine ⟨?_, fun k hk => ⟨?_, ?_⟩⟩
  · unfold cpS; rw [cpF_ne (by omega), cpF_ne (by omega), up2_same]; exact h.1
  · have := hw.2.1
    unfold cpS; rw [cpF_ne (by omega), cpF_at (by omega), up2_row _ _ _ _ (by omega)]; exact (h.2 k hk).1
  · have := hw.2.1
    unfold cpS; rw [cpF_at (by omega), cpF_ne (by omega), up2_row _ _ _ _ (by omega)]; exact (h.2 k hk).2
theorem cpR_P {I J : F2} {a b : Nat} {g : F1} (h : PRep I J b g) (hw : WP g) (hab : a + 4 ≤ b ∨ b + 4 ≤ a) (hwd : I a 0 = 6) : PRep (cpR I a b 288) (cpF J (a + 1) (b + 1) 8) a g := by
  refine ⟨?_, ?_, fun p hp => ⟨?_, ?_, fun s w hs hq => ?_⟩⟩
  · unfold cpR; rw [cpF_ne (by omega), cpF_ne (by omega), up2_ne2 _ _ _ _ (by omega)]; exact hwd
  · unfold cpR; rw [cpF_ne (by omega), cpF_ne (by omega), up2_same]; exact h.2.1
  · have := hw.2.1
    rw [cpF_at (by omega)]; exact (h.2.2 p hp).1
  · have := hw.2.1
    unfold cpR; rw [cpF_ne (by omega), cpF_at (by omega), up2_row _ _ _ _ (by omega)]; exact (h.2.2 p hp).2.1
  · have := hw.2.1
    have := (hw.2.2 p hp).2.1
    unfold cpR; rw [cpF_at (by omega), cpF_ne (by omega), up2_row _ _ _ _ (by omega)]; exact (h.2.2 p hp).2.2 s w hs hq
theorem cpR_I {I J : F2} {a b : Nat} {g : F1} (h : IRep I J b g) (hw : WI g) (hab : a + 4 ≤ b ∨ b + 4 ≤ a) (hwd : I a 0 = 3) : IRep (cpR I a b 144) (cpF J (a + 1) (b + 1) 8) a g := by
  refine ⟨?_, ?_, fun p hp => ⟨?_, ?_, fun s w hs hq => ?_⟩⟩
  · unfold cpR; rw [cpF_ne (by omega), cpF_ne (by omega), up2_ne2 _ _ _ _ (by omega)]; exact hwd
  · unfold cpR; rw [cpF_ne (by omega), cpF_ne (by omega), up2_same]; exact h.2.1
  · have := hw.2.1
    rw [cpF_at (by omega)]; exact (h.2.2 p hp).1
  · have := hw.2.1
    unfold cpR; rw [cpF_ne (by omega), cpF_at (by omega), up2_row _ _ _ _ (by omega)]; exact (h.2.2 p hp).2.1
  · have := hw.2.1
    have := (hw.2.2 p hp).2.1
    unfold cpR; rw [cpF_at (by omega), cpF_ne (by omega), up2_row _ _ _ _ (by omega)]; exact (h.2.2 p hp).2.2 s w hs hq
/-- the widths of a set's rows -/
def WD (I : F2) (a : Nat) : Prop := I (a + 4) 0 = 6 ∧ I (a + 8) 0 = 3
theorem SetR.wd {I J : F2} {a : Nat} {g : F1} (h : SetR I J a g) : WD I a := ⟨h.2.1.1, h.2.2.1⟩
theorem cpA_rep {I J : F2} {a b : Nat} {g : F1} (h : SetR I J b g) (hw : WF g) (hab : a + 12 ≤ b ∨ b + 12 ≤ a) (hwd : WD I a) : SetR (cpA I a b) (cpJ J a b) a g := by
  refine ⟨?_, ?_, ?_⟩
  · have h1 := cpS_rep h.1 hw.1 hab
    unfold SRep at h1 ⊢
    unfold cpA
    rw [cpR_ne (by omega), cpR_ne (by omega), cpR_ne (by omega), cpR_ne (by omega), cpR_ne (by omega), cpR_ne (by omega)]
    exact h1
  · have h0 : PRep (cpS I (a + 1) (b + 1)) J (b + 4) g := by
      have := h.2.1
      unfold PRep at this ⊢
      rw [cpS_ne (by omega), cpS_ne (by omega), cpS_ne (by omega)]; exact this
    have h1 := cpR_P (a := a + 4) h0 hw.2.1 (by omega) (by rw [cpS_ne (by omega)]; exact hwd.1)
    unfold PRep at h1 ⊢
    unfold cpA cpJ
    rw [cpR_ne (a := a + 8) (c := a + 4) (by omega), cpR_ne (a := a + 8) (c := a + 4 + 2) (by omega), cpR_ne (a := a + 8) (c := a + 4 + 3) (by omega), cpF_ne (a := a + 9) (x := a + 4 + 1) (by omega)]
    exact h1
  · have h0 : IRep (cpR (cpS I (a + 1) (b + 1)) (a + 4) (b + 4) 288) (cpF J (a + 5) (b + 5) 8) (b + 8) g := by
      have := h.2.2
      unfold IRep at this ⊢
      rw [cpR_ne (by omega), cpR_ne (by omega), cpR_ne (by omega), cpS_ne (by omega), cpS_ne (by omega), cpS_ne (by omega), cpF_ne (by omega)]; exact this
    exact cpR_I (a := a + 8) h0 hw.2.2 (by omega) (by rw [cpR_ne (by omega), cpS_ne (by omega)]; exact hwd.2)
theorem sp_cpS_15_1 (X : AX) (I J : Nat → Nat → Int) (cc ss : Nat) : Ev X k_X5_copyFrom (0, [some (vr 16), some (vr 2)], []) (MS I J cc ss) (fun o T => o = .inl none ∧ T = MS (cpS I 16 2) J cc ss) := by
  refine ev_n (fr' := (5, [some (vr 16), some (vr 2)], [vi (I 2 2), vr 16])) (S' := MS I J cc ss) 3 rfl ?_
  refine ev_n (fr' := (8, [some (vr 16), some (vr 2)], [])) (S' := MS (up2 I 16 2 (I 2 2)) J cc ss) 1 rfl ?_
  refine ev_n (fr' := (19, [some (vr 16), some (vr 2)], [vi 5, vi 0, vr 17, vi 0, vr 3])) (S' := MS (up2 I 16 2 (I 2 2)) J cc ss) 7 rfl ?_
  refine ev_aci (n := 5) rfl rfl rfl (by decide) (by decide) (by decide) ?_
  show Ev X k_X5_copyFrom (22, [some (vr 16), some (vr 2)], []) (MS ((cpF (up2 I 16 2 (I 2 2)) 17 3 5)) J cc ss) _
  refine ev_n (fr' := (33, [some (vr 16), some (vr 2)], [vi 5, vi 0, vr 18, vi 0, vr 4])) (S' := MS ((cpF (up2 I 16 2 (I 2 2)) 17 3 5)) J cc ss) 7 rfl ?_
  refine ev_aci (n := 5) rfl rfl rfl (by decide) (by decide) (by decide) ?_
  show Ev X k_X5_copyFrom (36, [some (vr 16), some (vr 2)], []) (MS ((cpF ((cpF (up2 I 16 2 (I 2 2)) 17 3 5)) 18 4 5)) J cc ss) _
  refine ev_r rfl rfl rfl ?_
  exact ⟨rfl, rfl⟩
theorem sp_cpR_19_5 (X : AX) (I J : Nat → Nat → Int) (cc ss : Nat) : Ev X k_X3_copyFrom (0, [some (vr 19), some (vr 5)], []) (MS I J cc ss) (fun o T => o = .inl none ∧ T = MS (cpR I 19 5 288) (cpF J 20 6 8) cc ss) := by
  refine ev_n (fr' := (5, [some (vr 19), some (vr 5)], [vi (I 5 4), vr 19])) (S' := MS I J cc ss) 3 rfl ?_
  refine ev_n (fr' := (8, [some (vr 19), some (vr 5)], [])) (S' := MS (up2 I 19 4 (I 5 4)) J cc ss) 1 rfl ?_
  refine ev_n (fr' := (20, [some (vr 19), some (vr 5)], [vi 8, vi 0, vr 20, vi 0, vr 6])) (S' := MS (up2 I 19 4 (I 5 4)) J cc ss) 7 rfl ?_
  refine ev_acl (n := 8) rfl rfl rfl (by decide) (by decide) (by decide) ?_
  show Ev X k_X3_copyFrom (23, [some (vr 19), some (vr 5)], []) (MS (up2 I 19 4 (I 5 4)) ((cpF J 20 6 8)) cc ss) _
  refine ev_n (fr' := (35, [some (vr 19), some (vr 5)], [vi 8, vi 0, vr 21, vi 0, vr 7])) (S' := MS (up2 I 19 4 (I 5 4)) ((cpF J 20 6 8)) cc ss) 7 rfl ?_
  refine ev_aci (n := 8) rfl rfl rfl (by decide) (by decide) (by decide) ?_
  show Ev X k_X3_copyFrom (38, [some (vr 19), some (vr 5)], []) (MS ((cpF (up2 I 19 4 (I 5 4)) 21 7 8)) ((cpF J 20 6 8)) cc ss) _
  refine ev_n (fr' := (58, [some (vr 19), some (vr 5)], [vi 288, vi 288, vi 0, vr 22, vi 0, vr 8])) (S' := MS ((cpF (up2 I 19 4 (I 5 4)) 21 7 8)) ((cpF J 20 6 8)) cc ss) 12 rfl ?_
  refine ev_cv rfl rfl rfl ⟨Nat.le_of_ble_eq_true rfl, Nat.le_of_ble_eq_true rfl⟩ (sp_min X _ 288 288 ) ?_
  show Ev X k_X3_copyFrom (61, [some (vr 19), some (vr 5)], [vi (if 288 < 288 then 288 else 288), vi 0, vr 22, vi 0, vr 8]) (MS ((cpF (up2 I 19 4 (I 5 4)) 21 7 8)) ((cpF J 20 6 8)) cc ss) _
  refine ev_eqi (show (if 288 < 288 then 288 else 288) = 288 from rfl) ?_
  show Ev X k_X3_copyFrom (61, [some (vr 19), some (vr 5)], [vi 288, vi 0, vr 22, vi 0, vr 8]) (MS ((cpF (up2 I 19 4 (I 5 4)) 21 7 8)) ((cpF J 20 6 8)) cc ss) _
  refine ev_aci (n := 288) rfl rfl rfl (by decide) (by decide) (by decide) ?_
  show Ev X k_X3_copyFrom (64, [some (vr 19), some (vr 5)], []) (MS ((cpF ((cpF (up2 I 19 4 (I 5 4)) 21 7 8)) 22 8 288)) ((cpF J 20 6 8)) cc ss) _
  refine ev_r rfl rfl rfl ?_
  exact ⟨rfl, rfl⟩
theorem sp_cpR_23_9 (X : AX) (I J : Nat → Nat → Int) (cc ss : Nat) : Ev X k_X3_copyFrom (0, [some (vr 23), some (vr 9)], []) (MS I J cc ss) (fun o T => o = .inl none ∧ T = MS (cpR I 23 9 144) (cpF J 24 10 8) cc ss) := by
  refine ev_n (fr' := (5, [some (vr 23), some (vr 9)], [vi (I 9 4), vr 23])) (S' := MS I J cc ss) 3 rfl ?_
  refine ev_n (fr' := (8, [some (vr 23), some (vr 9)], [])) (S' := MS (up2 I 23 4 (I 9 4)) J cc ss) 1 rfl ?_
  refine ev_n (fr' := (20, [some (vr 23), some (vr 9)], [vi 8, vi 0, vr 24, vi 0, vr 10])) (S' := MS (up2 I 23 4 (I 9 4)) J cc ss) 7 rfl ?_
  refine ev_acl (n := 8) rfl rfl rfl (by decide) (by decide) (by decide) ?_
  show Ev X k_X3_copyFrom (23, [some (vr 23), some (vr 9)], []) (MS (up2 I 23 4 (I 9 4)) ((cpF J 24 10 8)) cc ss) _
  refine ev_n (fr' := (35, [some (vr 23), some (vr 9)], [vi 8, vi 0, vr 25, vi 0, vr 11])) (S' := MS (up2 I 23 4 (I 9 4)) ((cpF J 24 10 8)) cc ss) 7 rfl ?_
  refine ev_aci (n := 8) rfl rfl rfl (by decide) (by decide) (by decide) ?_
  show Ev X k_X3_copyFrom (38, [some (vr 23), some (vr 9)], []) (MS ((cpF (up2 I 23 4 (I 9 4)) 25 11 8)) ((cpF J 24 10 8)) cc ss) _
  refine ev_n (fr' := (58, [some (vr 23), some (vr 9)], [vi 144, vi 144, vi 0, vr 26, vi 0, vr 12])) (S' := MS ((cpF (up2 I 23 4 (I 9 4)) 25 11 8)) ((cpF J 24 10 8)) cc ss) 12 rfl ?_
  refine ev_cv rfl rfl rfl ⟨Nat.le_of_ble_eq_true rfl, Nat.le_of_ble_eq_true rfl⟩ (sp_min X _ 144 144 ) ?_
  show Ev X k_X3_copyFrom (61, [some (vr 23), some (vr 9)], [vi (if 144 < 144 then 144 else 144), vi 0, vr 26, vi 0, vr 12]) (MS ((cpF (up2 I 23 4 (I 9 4)) 25 11 8)) ((cpF J 24 10 8)) cc ss) _
  refine ev_eqi (show (if 144 < 144 then 144 else 144) = 144 from rfl) ?_
  show Ev X k_X3_copyFrom (61, [some (vr 23), some (vr 9)], [vi 144, vi 0, vr 26, vi 0, vr 12]) (MS ((cpF (up2 I 23 4 (I 9 4)) 25 11 8)) ((cpF J 24 10 8)) cc ss) _
  refine ev_aci (n := 144) rfl rfl rfl (by decide) (by decide) (by decide) ?_
  show Ev X k_X3_copyFrom (64, [some (vr 23), some (vr 9)], []) (MS ((cpF ((cpF (up2 I 23 4 (I 9 4)) 25 11 8)) 26 12 144)) ((cpF J 24 10 8)) cc ss) _
  refine ev_r rfl rfl rfl ?_
  exact ⟨rfl, rfl⟩
theorem sp_cpA_15_1 (X : AX) (I J : Nat → Nat → Int) (cc ss : Nat) : Ev X k_X2_copyFrom (0, [some (vr 15), some (vr 1)], []) (MS I J cc ss) (fun o T => o = .inl none ∧ T = MS (cpA I 15 1) (cpJ J 15 1) cc ss) := by
  refine ev_n (fr' := (8, [some (vr 15), some (vr 1)], [vr 2, vr 16])) (S' := MS I J cc ss) 4 rfl ?_
  refine ev_cv rfl rfl rfl ⟨Nat.le_of_ble_eq_true rfl, Nat.le_of_ble_eq_true rfl⟩ (sp_cpS_15_1 X _ _ _ _) ?_
  show Ev X k_X2_copyFrom (11, [some (vr 15), some (vr 1)], []) (MS ((cpS I 16 2)) J cc ss) _
  refine ev_n (fr' := (19, [some (vr 15), some (vr 1)], [vr 5, vr 19])) (S' := MS ((cpS I 16 2)) J cc ss) 4 rfl ?_
  refine ev_cv rfl rfl rfl ⟨Nat.le_of_ble_eq_true rfl, Nat.le_of_ble_eq_true rfl⟩ (sp_cpR_19_5 X _ _ _ _) ?_
  show Ev X k_X2_copyFrom (22, [some (vr 15), some (vr 1)], []) (MS ((cpR ((cpS I 16 2)) 19 5 288)) ((cpF J 20 6 8)) cc ss) _
  refine ev_n (fr' := (30, [some (vr 15), some (vr 1)], [vr 9, vr 23])) (S' := MS ((cpR ((cpS I 16 2)) 19 5 288)) ((cpF J 20 6 8)) cc ss) 4 rfl ?_
  refine ev_cv rfl rfl rfl ⟨Nat.le_of_ble_eq_true rfl, Nat.le_of_ble_eq_true rfl⟩ (sp_cpR_23_9 X _ _ _ _) ?_
  show Ev X k_X2_copyFrom (33, [some (vr 15), some (vr 1)], []) (MS ((cpR ((cpR ((cpS I 16 2)) 19 5 288)) 23 9 144)) ((cpF ((cpF J 20 6 8)) 24 10 8)) cc ss) _
  refine ev_r rfl rfl rfl ?_
  exact ⟨rfl, rfl⟩
theorem sp_cpS_27_1 (X : AX) (I J : Nat → Nat → Int) (cc ss : Nat) : Ev X k_X5_copyFrom (0, [some (vr 28), some (vr 2)], []) (MS I J cc ss) (fun o T => o = .inl none ∧ T = MS (cpS I 28 2) J cc ss) := by
  refine ev_n (fr' := (5, [some (vr 28), some (vr 2)], [vi (I 2 2), vr 28])) (S' := MS I J cc ss) 3 rfl ?_
  refine ev_n (fr' := (8, [some (vr 28), some (vr 2)], [])) (S' := MS (up2 I 28 2 (I 2 2)) J cc ss) 1 rfl ?_
  refine ev_n (fr' := (19, [some (vr 28), some (vr 2)], [vi 5, vi 0, vr 29, vi 0, vr 3])) (S' := MS (up2 I 28 2 (I 2 2)) J cc ss) 7 rfl ?_
  refine ev_aci (n := 5) rfl rfl rfl (by decide) (by decide) (by decide) ?_
  show Ev X k_X5_copyFrom (22, [some (vr 28), some (vr 2)], []) (MS ((cpF (up2 I 28 2 (I 2 2)) 29 3 5)) J cc ss) _
  refine ev_n (fr' := (33, [some (vr 28), some (vr 2)], [vi 5, vi 0, vr 30, vi 0, vr 4])) (S' := MS ((cpF (up2 I 28 2 (I 2 2)) 29 3 5)) J cc ss) 7 rfl ?_
  refine ev_aci (n := 5) rfl rfl rfl (by decide) (by decide) (by decide) ?_
  show Ev X k_X5_copyFrom (36, [some (vr 28), some (vr 2)], []) (MS ((cpF ((cpF (up2 I 28 2 (I 2 2)) 29 3 5)) 30 4 5)) J cc ss) _
  refine ev_r rfl rfl rfl ?_
  exact ⟨rfl, rfl⟩
theorem sp_cpR_31_5 (X : AX) (I J : Nat → Nat → Int) (cc ss : Nat) : Ev X k_X3_copyFrom (0, [some (vr 31), some (vr 5)], []) (MS I J cc ss) (fun o T => o = .inl none ∧ T = MS (cpR I 31 5 288) (cpF J 32 6 8) cc ss) := by
  refine ev_n (fr' := (5, [some (vr 31), some (vr 5)], [vi (I 5 4), vr 31])) (S' := MS I J cc ss) 3 rfl ?_
  refine ev_n (fr' := (8, [some (vr 31), some (vr 5)], [])) (S' := MS (up2 I 31 4 (I 5 4)) J cc ss) 1 rfl ?_
  refine ev_n (fr' := (20, [some (vr 31), some (vr 5)], [vi 8, vi 0, vr 32, vi 0, vr 6])) (S' := MS (up2 I 31 4 (I 5 4)) J cc ss) 7 rfl ?_
  refine ev_acl (n := 8) rfl rfl rfl (by decide) (by decide) (by decide) ?_
  show Ev X k_X3_copyFrom (23, [some (vr 31), some (vr 5)], []) (MS (up2 I 31 4 (I 5 4)) ((cpF J 32 6 8)) cc ss) _
  refine ev_n (fr' := (35, [some (vr 31), some (vr 5)], [vi 8, vi 0, vr 33, vi 0, vr 7])) (S' := MS (up2 I 31 4 (I 5 4)) ((cpF J 32 6 8)) cc ss) 7 rfl ?_
  refine ev_aci (n := 8) rfl rfl rfl (by decide) (by decide) (by decide) ?_
  show Ev X k_X3_copyFrom (38, [some (vr 31), some (vr 5)], []) (MS ((cpF (up2 I 31 4 (I 5 4)) 33 7 8)) ((cpF J 32 6 8)) cc ss) _
  refine ev_n (fr' := (58, [some (vr 31), some (vr 5)], [vi 288, vi 288, vi 0, vr 34, vi 0, vr 8])) (S' := MS ((cpF (up2 I 31 4 (I 5 4)) 33 7 8)) ((cpF J 32 6 8)) cc ss) 12 rfl ?_
  refine ev_cv rfl rfl rfl ⟨Nat.le_of_ble_eq_true rfl, Nat.le_of_ble_eq_true rfl⟩ (sp_min X _ 288 288 ) ?_
  show Ev X k_X3_copyFrom (61, [some (vr 31), some (vr 5)], [vi (if 288 < 288 then 288 else 288), vi 0, vr 34, vi 0, vr 8]) (MS ((cpF (up2 I 31 4 (I 5 4)) 33 7 8)) ((cpF J 32 6 8)) cc ss) _
  refine ev_eqi (show (if 288 < 288 then 288 else 288) = 288 from rfl) ?_
  show Ev X k_X3_copyFrom (61, [some (vr 31), some (vr 5)], [vi 288, vi 0, vr 34, vi 0, vr 8]) (MS ((cpF (up2 I 31 4 (I 5 4)) 33 7 8)) ((cpF J 32 6 8)) cc ss) _
  refine ev_aci (n := 288) rfl rfl rfl (by decide) (by decide) (by decide) ?_
  show Ev X k_X3_copyFrom (64, [some (vr 31), some (vr 5)], []) (MS ((cpF ((cpF (up2 I 31 4 (I 5 4)) 33 7 8)) 34 8 288)) ((cpF J 32 6 8)) cc ss) _
  refine ev_r rfl rfl rfl ?_
  exact ⟨rfl, rfl⟩
theorem sp_cpR_35_9 (X : AX) (I J : Nat → Nat → Int) (cc ss : Nat) : Ev X k_X3_copyFrom (0, [some (vr 35), some (vr 9)], []) (MS I J cc ss) (fun o T => o = .inl none ∧ T = MS (cpR I 35 9 144) (cpF J 36 10 8) cc ss) := by
  refine ev_n (fr' := (5, [some (vr 35), some (vr 9)], [vi (I 9 4), vr 35])) (S' := MS I J cc ss) 3 rfl ?_
  refine ev_n (fr' := (8, [some (vr 35), some (vr 9)], [])) (S' := MS (up2 I 35 4 (I 9 4)) J cc ss) 1 rfl ?_
  refine ev_n (fr' := (20, [some (vr 35), some (vr 9)], [vi 8, vi 0, vr 36, vi 0, vr 10])) (S' := MS (up2 I 35 4 (I 9 4)) J cc ss) 7 rfl ?_
  refine ev_acl (n := 8) rfl rfl rfl (by decide) (by decide) (by decide) ?_
  show Ev X k_X3_copyFrom (23, [some (vr 35), some (vr 9)], []) (MS (up2 I 35 4 (I 9 4)) ((cpF J 36 10 8)) cc ss) _
  refine ev_n (fr' := (35, [some (vr 35), some (vr 9)], [vi 8, vi 0, vr 37, vi 0, vr 11])) (S' := MS (up2 I 35 4 (I 9 4)) ((cpF J 36 10 8)) cc ss) 7 rfl ?_
  refine ev_aci (n := 8) rfl rfl rfl (by decide) (by decide) (by decide) ?_
  show Ev X k_X3_copyFrom (38, [some (vr 35), some (vr 9)], []) (MS ((cpF (up2 I 35 4 (I 9 4)) 37 11 8)) ((cpF J 36 10 8)) cc ss) _
  refine ev_n (fr' := (58, [some (vr 35), some (vr 9)], [vi 144, vi 144, vi 0, vr 38, vi 0, vr 12])) (S' := MS ((cpF (up2 I 35 4 (I 9 4)) 37 11 8)) ((cpF J 36 10 8)) cc ss) 12 rfl ?_
  refine ev_cv rfl rfl rfl ⟨Nat.le_of_ble_eq_true rfl, Nat.le_of_ble_eq_true rfl⟩ (sp_min X _ 144 144 ) ?_
  show Ev X k_X3_copyFrom (61, [some (vr 35), some (vr 9)], [vi (if 144 < 144 then 144 else 144), vi 0, vr 38, vi 0, vr 12]) (MS ((cpF (up2 I 35 4 (I 9 4)) 37 11 8)) ((cpF J 36 10 8)) cc ss) _
  refine ev_eqi (show (if 144 < 144 then 144 else 144) = 144 from rfl) ?_
  show Ev X k_X3_copyFrom (61, [some (vr 35), some (vr 9)], [vi 144, vi 0, vr 38, vi 0, vr 12]) (MS ((cpF (up2 I 35 4 (I 9 4)) 37 11 8)) ((cpF J 36 10 8)) cc ss) _
  refine ev_aci (n := 144) rfl rfl rfl (by decide) (by decide) (by decide) ?_
  show Ev X k_X3_copyFrom (64, [some (vr 35), some (vr 9)], []) (MS ((cpF ((cpF (up2 I 35 4 (I 9 4)) 37 11 8)) 38 12 144)) ((cpF J 36 10 8)) cc ss) _
  refine ev_r rfl rfl rfl ?_
  exact ⟨rfl, rfl⟩
theorem sp_cpA_27_1 (X : AX) (I J : Nat → Nat → Int) (cc ss : Nat) : Ev X k_X2_copyFrom (0, [some (vr 27), some (vr 1)], []) (MS I J cc ss) (fun o T => o = .inl none ∧ T = MS (cpA I 27 1) (cpJ J 27 1) cc ss) := by
  refine ev_n (fr' := (8, [some (vr 27), some (vr 1)], [vr 2, vr 28])) (S' := MS I J cc ss) 4 rfl ?_
  refine ev_cv rfl rfl rfl ⟨Nat.le_of_ble_eq_true rfl, Nat.le_of_ble_eq_true rfl⟩ (sp_cpS_27_1 X _ _ _ _) ?_
  show Ev X k_X2_copyFrom (11, [some (vr 27), some (vr 1)], []) (MS ((cpS I 28 2)) J cc ss) _
  refine ev_n (fr' := (19, [some (vr 27), some (vr 1)], [vr 5, vr 31])) (S' := MS ((cpS I 28 2)) J cc ss) 4 rfl ?_
  refine ev_cv rfl rfl rfl ⟨Nat.le_of_ble_eq_true rfl, Nat.le_of_ble_eq_true rfl⟩ (sp_cpR_31_5 X _ _ _ _) ?_
  show Ev X k_X2_copyFrom (22, [some (vr 27), some (vr 1)], []) (MS ((cpR ((cpS I 28 2)) 31 5 288)) ((cpF J 32 6 8)) cc ss) _
  refine ev_n (fr' := (30, [some (vr 27), some (vr 1)], [vr 9, vr 35])) (S' := MS ((cpR ((cpS I 28 2)) 31 5 288)) ((cpF J 32 6 8)) cc ss) 4 rfl ?_
  refine ev_cv rfl rfl rfl ⟨Nat.le_of_ble_eq_true rfl, Nat.le_of_ble_eq_true rfl⟩ (sp_cpR_35_9 X _ _ _ _) ?_
  show Ev X k_X2_copyFrom (33, [some (vr 27), some (vr 1)], []) (MS ((cpR ((cpR ((cpS I 28 2)) 31 5 288)) 35 9 144)) ((cpF ((cpF J 32 6 8)) 36 10 8)) cc ss) _
  refine ev_r rfl rfl rfl ?_
  exact ⟨rfl, rfl⟩
theorem sp_cpS_39_1 (X : AX) (I J : Nat → Nat → Int) (cc ss : Nat) : Ev X k_X5_copyFrom (0, [some (vr 40), some (vr 2)], []) (MS I J cc ss) (fun o T => o = .inl none ∧ T = MS (cpS I 40 2) J cc ss) := by
  refine ev_n (fr' := (5, [some (vr 40), some (vr 2)], [vi (I 2 2), vr 40])) (S' := MS I J cc ss) 3 rfl ?_
  refine ev_n (fr' := (8, [some (vr 40), some (vr 2)], [])) (S' := MS (up2 I 40 2 (I 2 2)) J cc ss) 1 rfl ?_
  refine ev_n (fr' := (19, [some (vr 40), some (vr 2)], [vi 5, vi 0, vr 41, vi 0, vr 3])) (S' := MS (up2 I 40 2 (I 2 2)) J cc ss) 7 rfl ?_
  refine ev_aci (n := 5) rfl rfl rfl (by decide) (by decide) (by decide) ?_
  show Ev X k_X5_copyFrom (22, [some (vr 40), some (vr 2)], []) (MS ((cpF (up2 I 40 2 (I 2 2)) 41 3 5)) J cc ss) _
  refine ev_n (fr' := (33, [some (vr 40), some (vr 2)], [vi 5, vi 0, vr 42, vi 0, vr 4])) (S' := MS ((cpF (up2 I 40 2 (I 2 2)) 41 3 5)) J cc ss) 7 rfl ?_
  refine ev_aci (n := 5) rfl rfl rfl (by decide) (by decide) (by decide) ?_
  show Ev X k_X5_copyFrom (36, [some (vr 40), some (vr 2)], []) (MS ((cpF ((cpF (up2 I 40 2 (I 2 2)) 41 3 5)) 42 4 5)) J cc ss) _
  refine ev_r rfl rfl rfl ?_
  exact ⟨rfl, rfl⟩
theorem sp_cpR_43_5 (X : AX) (I J : Nat → Nat → Int) (cc ss : Nat) : Ev X k_X3_copyFrom (0, [some (vr 43), some (vr 5)], []) (MS I J cc ss) (fun o T => o = .inl none ∧ T = MS (cpR I 43 5 288) (cpF J 44 6 8) cc ss) := by
  refine ev_n (fr' := (5, [some (vr 43), some (vr 5)], [vi (I 5 4), vr 43])) (S' := MS I J cc ss) 3 rfl ?_
  refine ev_n (fr' := (8, [some (vr 43), some (vr 5)], [])) (S' := MS (up2 I 43 4 (I 5 4)) J cc ss) 1 rfl ?_
  refine ev_n (fr' := (20, [some (vr 43), some (vr 5)], [vi 8, vi 0, vr 44, vi 0, vr 6])) (S' := MS (up2 I 43 4 (I 5 4)) J cc ss) 7 rfl ?_
  refine ev_acl (n := 8) rfl rfl rfl (by decide) (by decide) (by decide) ?_
  show Ev X k_X3_copyFrom (23, [some (vr 43), some (vr 5)], []) (MS (up2 I 43 4 (I 5 4)) ((cpF J 44 6 8)) cc ss) _
  refine ev_n (fr' := (35, [some (vr 43), some (vr 5)], [vi 8, vi 0, vr 45, vi 0, vr 7])) (S' := MS (up2 I 43 4 (I 5 4)) ((cpF J 44 6 8)) cc ss) 7 rfl ?_
  refine ev_aci (n := 8) rfl rfl rfl (by decide) (by decide) (by decide) ?_
  show Ev X k_X3_copyFrom (38, [some (vr 43), some (vr 5)], []) (MS ((cpF (up2 I 43 4 (I 5 4)) 45 7 8)) ((cpF J 44 6 8)) cc ss) _
  refine ev_n (fr' := (58, [some (vr 43), some (vr 5)], [vi 288, vi 288, vi 0, vr 46, vi 0, vr 8])) (S' := MS ((cpF (up2 I 43 4 (I 5 4)) 45 7 8)) ((cpF J 44 6 8)) cc ss) 12 rfl ?_
  refine ev_cv rfl rfl rfl ⟨Nat.le_of_ble_eq_true rfl, Nat.le_of_ble_eq_true rfl⟩ (sp_min X _ 288 288 ) ?_
  show Ev X k_X3_copyFrom (61, [some (vr 43), some (vr 5)], [vi (if 288 < 288 then 288 else 288), vi 0, vr 46, vi 0, vr 8]) (MS ((cpF (up2 I 43 4 (I 5 4)) 45 7 8)) ((cpF J 44 6 8)) cc ss) _
  refine ev_eqi (show (if 288 < 288 then 288 else 288) = 288 from rfl) ?_
  show Ev X k_X3_copyFrom (61, [some (vr 43), some (vr 5)], [vi 288, vi 0, vr 46, vi 0, vr 8]) (MS ((cpF (up2 I 43 4 (I 5 4)) 45 7 8)) ((cpF J 44 6 8)) cc ss) _
  refine ev_aci (n := 288) rfl rfl rfl (by decide) (by decide) (by decide) ?_
  show Ev X k_X3_copyFrom (64, [some (vr 43), some (vr 5)], []) (MS ((cpF ((cpF (up2 I 43 4 (I 5 4)) 45 7 8)) 46 8 288)) ((cpF J 44 6 8)) cc ss) _
  refine ev_r rfl rfl rfl ?_
  exact ⟨rfl, rfl⟩
theorem sp_cpR_47_9 (X : AX) (I J : Nat → Nat → Int) (cc ss : Nat) : Ev X k_X3_copyFrom (0, [some (vr 47), some (vr 9)], []) (MS I J cc ss) (fun o T => o = .inl none ∧ T = MS (cpR I 47 9 144) (cpF J 48 10 8) cc ss) := by
  refine ev_n (fr' := (5, [some (vr 47), some (vr 9)], [vi (I 9 4), vr 47])) (S' := MS I J cc ss) 3 rfl ?_
  refine ev_n (fr' := (8, [some (vr 47), some (vr 9)], [])) (S' := MS (up2 I 47 4 (I 9 4)) J cc ss) 1 rfl ?_
  refine ev_n (fr' := (20, [some (vr 47), some (vr 9)], [vi 8, vi 0, vr 48, vi 0, vr 10])) (S' := MS (up2 I 47 4 (I 9 4)) J cc ss) 7 rfl ?_
  refine ev_acl (n := 8) rfl rfl rfl (by decide) (by decide) (by decide) ?_
  show Ev X k_X3_copyFrom (23, [some (vr 47), some (vr 9)], []) (MS (up2 I 47 4 (I 9 4)) ((cpF J 48 10 8)) cc ss) _
  refine ev_n (fr' := (35, [some (vr 47), some (vr 9)], [vi 8, vi 0, vr 49, vi 0, vr 11])) (S' := MS (up2 I 47 4 (I 9 4)) ((cpF J 48 10 8)) cc ss) 7 rfl ?_
  refine ev_aci (n := 8) rfl rfl rfl (by decide) (by decide) (by decide) ?_
  show Ev X k_X3_copyFrom (38, [some (vr 47), some (vr 9)], []) (MS ((cpF (up2 I 47 4 (I 9 4)) 49 11 8)) ((cpF J 48 10 8)) cc ss) _
  refine ev_n (fr' := (58, [some (vr 47), some (vr 9)], [vi 144, vi 144, vi 0, vr 50, vi 0, vr 12])) (S' := MS ((cpF (up2 I 47 4 (I 9 4)) 49 11 8)) ((cpF J 48 10 8)) cc ss) 12 rfl ?_
  refine ev_cv rfl rfl rfl ⟨Nat.le_of_ble_eq_true rfl, Nat.le_of_ble_eq_true rfl⟩ (sp_min X _ 144 144 ) ?_
  show Ev X k_X3_copyFrom (61, [some (vr 47), some (vr 9)], [vi (if 144 < 144 then 144 else 144), vi 0, vr 50, vi 0, vr 12]) (MS ((cpF (up2 I 47 4 (I 9 4)) 49 11 8)) ((cpF J 48 10 8)) cc ss) _
  refine ev_eqi (show (if 144 < 144 then 144 else 144) = 144 from rfl) ?_
  show Ev X k_X3_copyFrom (61, [some (vr 47), some (vr 9)], [vi 144, vi 0, vr 50, vi 0, vr 12]) (MS ((cpF (up2 I 47 4 (I 9 4)) 49 11 8)) ((cpF J 48 10 8)) cc ss) _
  refine ev_aci (n := 144) rfl rfl rfl (by decide) (by decide) (by decide) ?_
  show Ev X k_X3_copyFrom (64, [some (vr 47), some (vr 9)], []) (MS ((cpF ((cpF (up2 I 47 4 (I 9 4)) 49 11 8)) 50 12 144)) ((cpF J 48 10 8)) cc ss) _
  refine ev_r rfl rfl rfl ?_
  exact ⟨rfl, rfl⟩
theorem sp_cpA_39_1 (X : AX) (I J : Nat → Nat → Int) (cc ss : Nat) : Ev X k_X2_copyFrom (0, [some (vr 39), some (vr 1)], []) (MS I J cc ss) (fun o T => o = .inl none ∧ T = MS (cpA I 39 1) (cpJ J 39 1) cc ss) := by
  refine ev_n (fr' := (8, [some (vr 39), some (vr 1)], [vr 2, vr 40])) (S' := MS I J cc ss) 4 rfl ?_
  refine ev_cv rfl rfl rfl ⟨Nat.le_of_ble_eq_true rfl, Nat.le_of_ble_eq_true rfl⟩ (sp_cpS_39_1 X _ _ _ _) ?_
  show Ev X k_X2_copyFrom (11, [some (vr 39), some (vr 1)], []) (MS ((cpS I 40 2)) J cc ss) _
  refine ev_n (fr' := (19, [some (vr 39), some (vr 1)], [vr 5, vr 43])) (S' := MS ((cpS I 40 2)) J cc ss) 4 rfl ?_
  refine ev_cv rfl rfl rfl ⟨Nat.le_of_ble_eq_true rfl, Nat.le_of_ble_eq_true rfl⟩ (sp_cpR_43_5 X _ _ _ _) ?_
  show Ev X k_X2_copyFrom (22, [some (vr 39), some (vr 1)], []) (MS ((cpR ((cpS I 40 2)) 43 5 288)) ((cpF J 44 6 8)) cc ss) _
  refine ev_n (fr' := (30, [some (vr 39), some (vr 1)], [vr 9, vr 47])) (S' := MS ((cpR ((cpS I 40 2)) 43 5 288)) ((cpF J 44 6 8)) cc ss) 4 rfl ?_
  refine ev_cv rfl rfl rfl ⟨Nat.le_of_ble_eq_true rfl, Nat.le_of_ble_eq_true rfl⟩ (sp_cpR_47_9 X _ _ _ _) ?_
  show Ev X k_X2_copyFrom (33, [some (vr 39), some (vr 1)], []) (MS ((cpR ((cpR ((cpS I 40 2)) 43 5 288)) 47 9 144)) ((cpF ((cpF J 44 6 8)) 48 10 8)) cc ss) _
  refine ev_r rfl rfl rfl ?_
  exact ⟨rfl, rfl⟩
theorem sp_cpS_51_1 (X : AX) (I J : Nat → Nat → Int) (cc ss : Nat) : Ev X k_X5_copyFrom (0, [some (vr 52), some (vr 2)], []) (MS I J cc ss) (fun o T => o = .inl none ∧ T = MS (cpS I 52 2) J cc ss) := by
  refine ev_n (fr' := (5, [some (vr 52), some (vr 2)], [vi (I 2 2), vr 52])) (S' := MS I J cc ss) 3 rfl ?_
  refine ev_n (fr' := (8, [some (vr 52), some (vr 2)], [])) (S' := MS (up2 I 52 2 (I 2 2)) J cc ss) 1 rfl ?_
  refine ev_n (fr' := (19, [some (vr 52), some (vr 2)], [vi 5, vi 0, vr 53, vi 0, vr 3])) (S' := MS (up2 I 52 2 (I 2 2)) J cc ss) 7 rfl ?_
  refine ev_aci (n := 5) rfl rfl rfl (by decide) (by decide) (by decide) ?_
  show Ev X k_X5_copyFrom (22, [some (vr 52), some (vr 2)], []) (MS ((cpF (up2 I 52 2 (I 2 2)) 53 3 5)) J cc ss) _
  refine ev_n (fr' := (33, [some (vr 52), some (vr 2)], [vi 5, vi 0, vr 54, vi 0, vr 4])) (S' := MS ((cpF (up2 I 52 2 (I 2 2)) 53 3 5)) J cc ss) 7 rfl ?_
  refine ev_aci (n := 5) rfl rfl rfl (by decide) (by decide) (by decide) ?_
  show Ev X k_X5_copyFrom (36, [some (vr 52), some (vr 2)], []) (MS ((cpF ((cpF (up2 I 52 2 (I 2 2)) 53 3 5)) 54 4 5)) J cc ss) _
  refine ev_r rfl rfl rfl ?_
  exact ⟨rfl, rfl⟩
theorem sp_cpR_55_5 (X : AX) (I J : Nat → Nat → Int) (cc ss : Nat) : Ev X k_X3_copyFrom (0, [some (vr 55), some (vr 5)], []) (MS I J cc ss) (fun o T => o = .inl none ∧ T = MS (cpR I 55 5 288) (cpF J 56 6 8) cc ss) := by
  refine ev_n (fr' := (5, [some (vr 55), some (vr 5)], [vi (I 5 4), vr 55])) (S' := MS I J cc ss) 3 rfl ?_
  refine ev_n (fr' := (8, [some (vr 55), some (vr 5)], [])) (S' := MS (up2 I 55 4 (I 5 4)) J cc ss) 1 rfl ?_
  refine ev_n (fr' := (20, [some (vr 55), some (vr 5)], [vi 8, vi 0, vr 56, vi 0, vr 6])) (S' := MS (up2 I 55 4 (I 5 4)) J cc ss) 7 rfl ?_
  refine ev_acl (n := 8) rfl rfl rfl (by decide) (by decide) (by decide) ?_
  show Ev X k_X3_copyFrom (23, [some (vr 55), some (vr 5)], []) (MS (up2 I 55 4 (I 5 4)) ((cpF J 56 6 8)) cc ss) _
  refine ev_n (fr' := (35, [some (vr 55), some (vr 5)], [vi 8, vi 0, vr 57, vi 0, vr 7])) (S' := MS (up2 I 55 4 (I 5 4)) ((cpF J 56 6 8)) cc ss) 7 rfl ?_
  refine ev_aci (n := 8) rfl rfl rfl (by decide) (by decide) (by decide) ?_
  show Ev X k_X3_copyFrom (38, [some (vr 55), some (vr 5)], []) (MS ((cpF (up2 I 55 4 (I 5 4)) 57 7 8)) ((cpF J 56 6 8)) cc ss) _
  refine ev_n (fr' := (58, [some (vr 55), some (vr 5)], [vi 288, vi 288, vi 0, vr 58, vi 0, vr 8])) (S' := MS ((cpF (up2 I 55 4 (I 5 4)) 57 7 8)) ((cpF J 56 6 8)) cc ss) 12 rfl ?_
  refine ev_cv rfl rfl rfl ⟨Nat.le_of_ble_eq_true rfl, Nat.le_of_ble_eq_true rfl⟩ (sp_min X _ 288 288 ) ?_
  show Ev X k_X3_copyFrom (61, [some (vr 55), some (vr 5)], [vi (if 288 < 288 then 288 else 288), vi 0, vr 58, vi 0, vr 8]) (MS ((cpF (up2 I 55 4 (I 5 4)) 57 7 8)) ((cpF J 56 6 8)) cc ss) _
  refine ev_eqi (show (if 288 < 288 then 288 else 288) = 288 from rfl) ?_
  show Ev X k_X3_copyFrom (61, [some (vr 55), some (vr 5)], [vi 288, vi 0, vr 58, vi 0, vr 8]) (MS ((cpF (up2 I 55 4 (I 5 4)) 57 7 8)) ((cpF J 56 6 8)) cc ss) _
  refine ev_aci (n := 288) rfl rfl rfl (by decide) (by decide) (by decide) ?_
  show Ev X k_X3_copyFrom (64, [some (vr 55), some (vr 5)], []) (MS ((cpF ((cpF (up2 I 55 4 (I 5 4)) 57 7 8)) 58 8 288)) ((cpF J 56 6 8)) cc ss) _
  refine ev_r rfl rfl rfl ?_
  exact ⟨rfl, rfl⟩
theorem sp_cpR_59_9 (X : AX) (I J : Nat → Nat → Int) (cc ss : Nat) : Ev X k_X3_copyFrom (0, [some (vr 59), some (vr 9)], []) (MS I J cc ss) (fun o T => o = .inl none ∧ T = MS (cpR I 59 9 144) (cpF J 60 10 8) cc ss) := by
  refine ev_n (fr' := (5, [some (vr 59), some (vr 9)], [vi (I 9 4), vr 59])) (S' := MS I J cc ss) 3 rfl ?_
  refine ev_n (fr' := (8, [some (vr 59), some (vr 9)], [])) (S' := MS (up2 I 59 4 (I 9 4)) J cc ss) 1 rfl ?_
  refine ev_n (fr' := (20, [some (vr 59), some (vr 9)], [vi 8, vi 0, vr 60, vi 0, vr 10])) (S' := MS (up2 I 59 4 (I 9 4)) J cc ss) 7 rfl ?_
  refine ev_acl (n := 8) rfl rfl rfl (by decide) (by decide) (by decide) ?_
  show Ev X k_X3_copyFrom (23, [some (vr 59), some (vr 9)], []) (MS (up2 I 59 4 (I 9 4)) ((cpF J 60 10 8)) cc ss) _
  refine ev_n (fr' := (35, [some (vr 59), some (vr 9)], [vi 8, vi 0, vr 61, vi 0, vr 11])) (S' := MS (up2 I 59 4 (I 9 4)) ((cpF J 60 10 8)) cc ss) 7 rfl ?_
  refine ev_aci (n := 8) rfl rfl rfl (by decide) (by decide) (by decide) ?_
  show Ev X k_X3_copyFrom (38, [some (vr 59), some (vr 9)], []) (MS ((cpF (up2 I 59 4 (I 9 4)) 61 11 8)) ((cpF J 60 10 8)) cc ss) _
  refine ev_n (fr' := (58, [some (vr 59), some (vr 9)], [vi 144, vi 144, vi 0, vr 62, vi 0, vr 12])) (S' := MS ((cpF (up2 I 59 4 (I 9 4)) 61 11 8)) ((cpF J 60 10 8)) cc ss) 12 rfl ?_
  refine ev_cv rfl rfl rfl ⟨Nat.le_of_ble_eq_true rfl, Nat.le_of_ble_eq_true rfl⟩ (sp_min X _ 144 144 ) ?_
  show Ev X k_X3_copyFrom (61, [some (vr 59), some (vr 9)], [vi (if 144 < 144 then 144 else 144), vi 0, vr 62, vi 0, vr 12]) (MS ((cpF (up2 I 59 4 (I 9 4)) 61 11 8)) ((cpF J 60 10 8)) cc ss) _
  refine ev_eqi (show (if 144 < 144 then 144 else 144) = 144 from rfl) ?_
  show Ev X k_X3_copyFrom (61, [some (vr 59), some (vr 9)], [vi 144, vi 0, vr 62, vi 0, vr 12]) (MS ((cpF (up2 I 59 4 (I 9 4)) 61 11 8)) ((cpF J 60 10 8)) cc ss) _
  refine ev_aci (n := 144) rfl rfl rfl (by decide) (by decide) (by decide) ?_
  show Ev X k_X3_copyFrom (64, [some (vr 59), some (vr 9)], []) (MS ((cpF ((cpF (up2 I 59 4 (I 9 4)) 61 11 8)) 62 12 144)) ((cpF J 60 10 8)) cc ss) _
  refine ev_r rfl rfl rfl ?_
  exact ⟨rfl, rfl⟩
theorem sp_cpA_51_1 (X : AX) (I J : Nat → Nat → Int) (cc ss : Nat) : Ev X k_X2_copyFrom (0, [some (vr 51), some (vr 1)], []) (MS I J cc ss) (fun o T => o = .inl none ∧ T = MS (cpA I 51 1) (cpJ J 51 1) cc ss) := by
  refine ev_n (fr' := (8, [some (vr 51), some (vr 1)], [vr 2, vr 52])) (S' := MS I J cc ss) 4 rfl ?_
  refine ev_cv rfl rfl rfl ⟨Nat.le_of_ble_eq_true rfl, Nat.le_of_ble_eq_true rfl⟩ (sp_cpS_51_1 X _ _ _ _) ?_
  show Ev X k_X2_copyFrom (11, [some (vr 51), some (vr 1)], []) (MS ((cpS I 52 2)) J cc ss) _
  refine ev_n (fr' := (19, [some (vr 51), some (vr 1)], [vr 5, vr 55])) (S' := MS ((cpS I 52 2)) J cc ss) 4 rfl ?_
  refine ev_cv rfl rfl rfl ⟨Nat.le_of_ble_eq_true rfl, Nat.le_of_ble_eq_true rfl⟩ (sp_cpR_55_5 X _ _ _ _) ?_
  show Ev X k_X2_copyFrom (22, [some (vr 51), some (vr 1)], []) (MS ((cpR ((cpS I 52 2)) 55 5 288)) ((cpF J 56 6 8)) cc ss) _
  refine ev_n (fr' := (30, [some (vr 51), some (vr 1)], [vr 9, vr 59])) (S' := MS ((cpR ((cpS I 52 2)) 55 5 288)) ((cpF J 56 6 8)) cc ss) 4 rfl ?_
  refine ev_cv rfl rfl rfl ⟨Nat.le_of_ble_eq_true rfl, Nat.le_of_ble_eq_true rfl⟩ (sp_cpR_59_9 X _ _ _ _) ?_
  show Ev X k_X2_copyFrom (33, [some (vr 51), some (vr 1)], []) (MS ((cpR ((cpR ((cpS I 52 2)) 55 5 288)) 59 9 144)) ((cpF ((cpF J 56 6 8)) 60 10 8)) cc ss) _
  refine ev_r rfl rfl rfl ?_
  exact ⟨rfl, rfl⟩
theorem sp_cpS_63_1 (X : AX) (I J : Nat → Nat → Int) (cc ss : Nat) : Ev X k_X5_copyFrom (0, [some (vr 64), some (vr 2)], []) (MS I J cc ss) (fun o T => o = .inl none ∧ T = MS (cpS I 64 2) J cc ss) := by
  refine ev_n (fr' := (5, [some (vr 64), some (vr 2)], [vi (I 2 2), vr 64])) (S' := MS I J cc ss) 3 rfl ?_
  refine ev_n (fr' := (8, [some (vr 64), some (vr 2)], [])) (S' := MS (up2 I 64 2 (I 2 2)) J cc ss) 1 rfl ?_
  refine ev_n (fr' := (19, [some (vr 64), some (vr 2)], [vi 5, vi 0, vr 65, vi 0, vr 3])) (S' := MS (up2 I 64 2 (I 2 2)) J cc ss) 7 rfl ?_
  refine ev_aci (n := 5) rfl rfl rfl (by decide) (by decide) (by decide) ?_
  show Ev X k_X5_copyFrom (22, [some (vr 64), some (vr 2)], []) (MS ((cpF (up2 I 64 2 (I 2 2)) 65 3 5)) J cc ss) _
  refine ev_n (fr' := (33, [some (vr 64), some (vr 2)], [vi 5, vi 0, vr 66, vi 0, vr 4])) (S' := MS ((cpF (up2 I 64 2 (I 2 2)) 65 3 5)) J cc ss) 7 rfl ?_
  refine ev_aci (n := 5) rfl rfl rfl (by decide) (by decide) (by decide) ?_
  show Ev X k_X5_copyFrom (36, [some (vr 64), some (vr 2)], []) (MS ((cpF ((cpF (up2 I 64 2 (I 2 2)) 65 3 5)) 66 4 5)) J cc ss) _
  refine ev_r rfl rfl rfl ?_
  exact ⟨rfl, rfl⟩
theorem sp_cpR_67_5 (X : AX) (I J : Nat → Nat → Int) (cc ss : Nat) : Ev X k_X3_copyFrom (0, [some (vr 67), some (vr 5)], []) (MS I J cc ss) (fun o T => o = .inl none ∧ T = MS (cpR I 67 5 288) (cpF J 68 6 8) cc ss) := by
  refine ev_n (fr' := (5, [some (vr 67), some (vr 5)], [vi (I 5 4), vr 67])) (S' := MS I J cc ss) 3 rfl ?_
  refine ev_n (fr' := (8, [some (vr 67), some (vr 5)], [])) (S' := MS (up2 I 67 4 (I 5 4)) J cc ss) 1 rfl ?_
  refine ev_n (fr' := (20, [some (vr 67), some (vr 5)], [vi 8, vi 0, vr 68, vi 0, vr 6])) (S' := MS (up2 I 67 4 (I 5 4)) J cc ss) 7 rfl ?_
  refine ev_acl (n := 8) rfl rfl rfl (by decide) (by decide) (by decide) ?_
  show Ev X k_X3_copyFrom (23, [some (vr 67), some (vr 5)], []) (MS (up2 I 67 4 (I 5 4)) ((cpF J 68 6 8)) cc ss) _
  refine ev_n (fr' := (35, [some (vr 67), some (vr 5)], [vi 8, vi 0, vr 69, vi 0, vr 7])) (S' := MS (up2 I 67 4 (I 5 4)) ((cpF J 68 6 8)) cc ss) 7 rfl ?_
  refine ev_aci (n := 8) rfl rfl rfl (by decide) (by decide) (by decide) ?_
  show Ev X k_X3_copyFrom (38, [some (vr 67), some (vr 5)], []) (MS ((cpF (up2 I 67 4 (I 5 4)) 69 7 8)) ((cpF J 68 6 8)) cc ss) _
  refine ev_n (fr' := (58, [some (vr 67), some (vr 5)], [vi 288, vi 288, vi 0, vr 70, vi 0, vr 8])) (S' := MS ((cpF (up2 I 67 4 (I 5 4)) 69 7 8)) ((cpF J 68 6 8)) cc ss) 12 rfl ?_
  refine ev_cv rfl rfl rfl ⟨Nat.le_of_ble_eq_true rfl, Nat.le_of_ble_eq_true rfl⟩ (sp_min X _ 288 288 ) ?_
  show Ev X k_X3_copyFrom (61, [some (vr 67), some (vr 5)], [vi (if 288 < 288 then 288 else 288), vi 0, vr 70, vi 0, vr 8]) (MS ((cpF (up2 I 67 4 (I 5 4)) 69 7 8)) ((cpF J 68 6 8)) cc ss) _
  refine ev_eqi (show (if 288 < 288 then 288 else 288) = 288 from rfl) ?_
  show Ev X k_X3_copyFrom (61, [some (vr 67), some (vr 5)], [vi 288, vi 0, vr 70, vi 0, vr 8]) (MS ((cpF (up2 I 67 4 (I 5 4)) 69 7 8)) ((cpF J 68 6 8)) cc ss) _
  refine ev_aci (n := 288) rfl rfl rfl (by decide) (by decide) (by decide) ?_
  show Ev X k_X3_copyFrom (64, [some (vr 67), some (vr 5)], []) (MS ((cpF ((cpF (up2 I 67 4 (I 5 4)) 69 7 8)) 70 8 288)) ((cpF J 68 6 8)) cc ss) _
  refine ev_r rfl rfl rfl ?_
  exact ⟨rfl, rfl⟩
theorem sp_cpR_71_9 (X : AX) (I J : Nat → Nat → Int) (cc ss : Nat) : Ev X k_X3_copyFrom (0, [some (vr 71), some (vr 9)], []) (MS I J cc ss) (fun o T => o = .inl none ∧ T = MS (cpR I 71 9 144) (cpF J 72 10 8) cc ss) := by
  refine ev_n (fr' := (5, [some (vr 71), some (vr 9)], [vi (I 9 4), vr 71])) (S' := MS I J cc ss) 3 rfl ?_
  refine ev_n (fr' := (8, [some (vr 71), some (vr 9)], [])) (S' := MS (up2 I 71 4 (I 9 4)) J cc ss) 1 rfl ?_
  refine ev_n (fr' := (20, [some (vr 71), some (vr 9)], [vi 8, vi 0, vr 72, vi 0, vr 10])) (S' := MS (up2 I 71 4 (I 9 4)) J cc ss) 7 rfl ?_
  refine ev_acl (n := 8) rfl rfl rfl (by decide) (by decide) (by decide) ?_
  show Ev X k_X3_copyFrom (23, [some (vr 71), some (vr 9)], []) (MS (up2 I 71 4 (I 9 4)) ((cpF J 72 10 8)) cc ss) _
  refine ev_n (fr' := (35, [some (vr 71), some (vr 9)], [vi 8, vi 0, vr 73, vi 0, vr 11])) (S' := MS (up2 I 71 4 (I 9 4)) ((cpF J 72 10 8)) cc ss) 7 rfl ?_
  refine ev_aci (n := 8) rfl rfl rfl (by decide) (by decide) (by decide) ?_
  show Ev X k_X3_copyFrom (38, [some (vr 71), some (vr 9)], []) (MS ((cpF (up2 I 71 4 (I 9 4)) 73 11 8)) ((cpF J 72 10 8)) cc ss) _
  refine ev_n (fr' := (58, [some (vr 71), some (vr 9)], [vi 144, vi 144, vi 0, vr 74, vi 0, vr 12])) (S' := MS ((cpF (up2 I 71 4 (I 9 4)) 73 11 8)) ((cpF J 72 10 8)) cc ss) 12 rfl ?_
  refine ev_cv rfl rfl rfl ⟨Nat.le_of_ble_eq_true rfl, Nat.le_of_ble_eq_true rfl⟩ (sp_min X _ 144 144 ) ?_
  show Ev X k_X3_copyFrom (61, [some (vr 71), some (vr 9)], [vi (if 144 < 144 then 144 else 144), vi 0, vr 74, vi 0, vr 12]) (MS ((cpF (up2 I 71 4 (I 9 4)) 73 11 8)) ((cpF J 72 10 8)) cc ss) _
  refine ev_eqi (show (if 144 < 144 then 144 else 144) = 144 from rfl) ?_
  show Ev X k_X3_copyFrom (61, [some (vr 71), some (vr 9)], [vi 144, vi 0, vr 74, vi 0, vr 12]) (MS ((cpF (up2 I 71 4 (I 9 4)) 73 11 8)) ((cpF J 72 10 8)) cc ss) _
  refine ev_aci (n := 144) rfl rfl rfl (by decide) (by decide) (by decide) ?_
  show Ev X k_X3_copyFrom (64, [some (vr 71), some (vr 9)], []) (MS ((cpF ((cpF (up2 I 71 4 (I 9 4)) 73 11 8)) 74 12 144)) ((cpF J 72 10 8)) cc ss) _
  refine ev_r rfl rfl rfl ?_
  exact ⟨rfl, rfl⟩
theorem sp_cpA_63_1 (X : AX) (I J : Nat → Nat → Int) (cc ss : Nat) : Ev X k_X2_copyFrom (0, [some (vr 63), some (vr 1)], []) (MS I J cc ss) (fun o T => o = .inl none ∧ T = MS (cpA I 63 1) (cpJ J 63 1) cc ss) := by
  refine ev_n (fr' := (8, [some (vr 63), some (vr 1)], [vr 2, vr 64])) (S' := MS I J cc ss) 4 rfl ?_
  refine ev_cv rfl rfl rfl ⟨Nat.le_of_ble_eq_true rfl, Nat.le_of_ble_eq_true rfl⟩ (sp_cpS_63_1 X _ _ _ _) ?_
  show Ev X k_X2_copyFrom (11, [some (vr 63), some (vr 1)], []) (MS ((cpS I 64 2)) J cc ss) _
  refine ev_n (fr' := (19, [some (vr 63), some (vr 1)], [vr 5, vr 67])) (S' := MS ((cpS I 64 2)) J cc ss) 4 rfl ?_
  refine ev_cv rfl rfl rfl ⟨Nat.le_of_ble_eq_true rfl, Nat.le_of_ble_eq_true rfl⟩ (sp_cpR_67_5 X _ _ _ _) ?_
  show Ev X k_X2_copyFrom (22, [some (vr 63), some (vr 1)], []) (MS ((cpR ((cpS I 64 2)) 67 5 288)) ((cpF J 68 6 8)) cc ss) _
  refine ev_n (fr' := (30, [some (vr 63), some (vr 1)], [vr 9, vr 71])) (S' := MS ((cpR ((cpS I 64 2)) 67 5 288)) ((cpF J 68 6 8)) cc ss) 4 rfl ?_
  refine ev_cv rfl rfl rfl ⟨Nat.le_of_ble_eq_true rfl, Nat.le_of_ble_eq_true rfl⟩ (sp_cpR_71_9 X _ _ _ _) ?_
  show Ev X k_X2_copyFrom (33, [some (vr 63), some (vr 1)], []) (MS ((cpR ((cpR ((cpS I 64 2)) 67 5 288)) 71 9 144)) ((cpF ((cpF J 68 6 8)) 72 10 8)) cc ss) _
  refine ev_r rfl rfl rfl ?_
  exact ⟨rfl, rfl⟩
theorem sp_cpS_75_1 (X : AX) (I J : Nat → Nat → Int) (cc ss : Nat) : Ev X k_X5_copyFrom (0, [some (vr 76), some (vr 2)], []) (MS I J cc ss) (fun o T => o = .inl none ∧ T = MS (cpS I 76 2) J cc ss) := by
  refine ev_n (fr' := (5, [some (vr 76), some (vr 2)], [vi (I 2 2), vr 76])) (S' := MS I J cc ss) 3 rfl ?_
  refine ev_n (fr' := (8, [some (vr 76), some (vr 2)], [])) (S' := MS (up2 I 76 2 (I 2 2)) J cc ss) 1 rfl ?_
  refine ev_n (fr' := (19, [some (vr 76), some (vr 2)], [vi 5, vi 0, vr 77, vi 0, vr 3])) (S' := MS (up2 I 76 2 (I 2 2)) J cc ss) 7 rfl ?_
  refine ev_aci (n := 5) rfl rfl rfl (by decide) (by decide) (by decide) ?_
  show Ev X k_X5_copyFrom (22, [some (vr 76), some (vr 2)], []) (MS ((cpF (up2 I 76 2 (I 2 2)) 77 3 5)) J cc ss) _
  refine ev_n (fr' := (33, [some (vr 76), some (vr 2)], [vi 5, vi 0, vr 78, vi 0, vr 4])) (S' := MS ((cpF (up2 I 76 2 (I 2 2)) 77 3 5)) J cc ss) 7 rfl ?_
  refine ev_aci (n := 5) rfl rfl rfl (by decide) (by decide) (by decide) ?_
  show Ev X k_X5_copyFrom (36, [some (vr 76), some (vr 2)], []) (MS ((cpF ((cpF (up2 I 76 2 (I 2 2)) 77 3 5)) 78 4 5)) J cc ss) _
  refine ev_r rfl rfl rfl ?_
  exact ⟨rfl, rfl⟩
theorem sp_cpR_79_5 (X : AX) (I J : Nat → Nat → Int) (cc ss : Nat) : Ev X k_X3_copyFrom (0, [some (vr 79), some (vr 5)], []) (MS I J cc ss) (fun o T => o = .inl none ∧ T = MS (cpR I 79 5 288) (cpF J 80 6 8) cc ss) := by
  refine ev_n (fr' := (5, [some (vr 79), some (vr 5)], [vi (I 5 4), vr 79])) (S' := MS I J cc ss) 3 rfl ?_
  refine ev_n (fr' := (8, [some (vr 79), some (vr 5)], [])) (S' := MS (up2 I 79 4 (I 5 4)) J cc ss) 1 rfl ?_
  refine ev_n (fr' := (20, [some (vr 79), some (vr 5)], [vi 8, vi 0, vr 80, vi 0, vr 6])) (S' := MS (up2 I 79 4 (I 5 4)) J cc ss) 7 rfl ?_
  refine ev_acl (n := 8) rfl rfl rfl (by decide) (by decide) (by decide) ?_
  show Ev X k_X3_copyFrom (23, [some (vr 79), some (vr 5)], []) (MS (up2 I 79 4 (I 5 4)) ((cpF J 80 6 8)) cc ss) _
  refine ev_n (fr' := (35, [some (vr 79), some (vr 5)], [vi 8, vi 0, vr 81, vi 0, vr 7])) (S' := MS (up2 I 79 4 (I 5 4)) ((cpF J 80 6 8)) cc ss) 7 rfl ?_
  refine ev_aci (n := 8) rfl rfl rfl (by decide) (by decide) (by decide) ?_
  show Ev X k_X3_copyFrom (38, [some (vr 79), some (vr 5)], []) (MS ((cpF (up2 I 79 4 (I 5 4)) 81 7 8)) ((cpF J 80 6 8)) cc ss) _
  refine ev_n (fr' := (58, [some (vr 79), some (vr 5)], [vi 288, vi 288, vi 0, vr 82, vi 0, vr 8])) (S' := MS ((cpF (up2 I 79 4 (I 5 4)) 81 7 8)) ((cpF J 80 6 8)) cc ss) 12 rfl ?_
  refine ev_cv rfl rfl rfl ⟨Nat.le_of_ble_eq_true rfl, Nat.le_of_ble_eq_true rfl⟩ (sp_min X _ 288 288 ) ?_
  show Ev X k_X3_copyFrom (61, [some (vr 79), some (vr 5)], [vi (if 288 < 288 then 288 else 288), vi 0, vr 82, vi 0, vr 8]) (MS ((cpF (up2 I 79 4 (I 5 4)) 81 7 8)) ((cpF J 80 6 8)) cc ss) _
  refine ev_eqi (show (if 288 < 288 then 288 else 288) = 288 from rfl) ?_
  show Ev X k_X3_copyFrom (61, [some (vr 79), some (vr 5)], [vi 288, vi 0, vr 82, vi 0, vr 8]) (MS ((cpF (up2 I 79 4 (I 5 4)) 81 7 8)) ((cpF J 80 6 8)) cc ss) _
  refine ev_aci (n := 288) rfl rfl rfl (by decide) (by decide) (by decide) ?_
  show Ev X k_X3_copyFrom (64, [some (vr 79), some (vr 5)], []) (MS ((cpF ((cpF (up2 I 79 4 (I 5 4)) 81 7 8)) 82 8 288)) ((cpF J 80 6 8)) cc ss) _
  refine ev_r rfl rfl rfl ?_
  exact ⟨rfl, rfl⟩
theorem sp_cpR_83_9 (X : AX) (I J : Nat → Nat → Int) (cc ss : Nat) : Ev X k_X3_copyFrom (0, [some (vr 83), some (vr 9)], []) (MS I J cc ss) (fun o T => o = .inl none ∧ T = MS (cpR I 83 9 144) (cpF J 84 10 8) cc ss) := by
  refine ev_n (fr' := (5, [some (vr 83), some (vr 9)], [vi (I 9 4), vr 83])) (S' := MS I J cc ss) 3 rfl ?_
  refine ev_n (fr' := (8, [some (vr 83), some (vr 9)], [])) (S' := MS (up2 I 83 4 (I 9 4)) J cc ss) 1 rfl ?_
  refine ev_n (fr' := (20, [some (vr 83), some (vr 9)], [vi 8, vi 0, vr 84, vi 0, vr 10])) (S' := MS (up2 I 83 4 (I 9 4)) J cc ss) 7 rfl ?_
  refine ev_acl (n := 8) rfl rfl rfl (by decide) (by decide) (by decide) ?_
  show Ev X k_X3_copyFrom (23, [some (vr 83), some (vr 9)], []) (MS (up2 I 83 4 (I 9 4)) ((cpF J 84 10 8)) cc ss) _
  refine ev_n (fr' := (35, [some (vr 83), some (vr 9)], [vi 8, vi 0, vr 85, vi 0, vr 11])) (S' := MS (up2 I 83 4 (I 9 4)) ((cpF J 84 10 8)) cc ss) 7 rfl ?_
  refine ev_aci (n := 8) rfl rfl rfl (by decide) (by decide) (by decide) ?_
  show Ev X k_X3_copyFrom (38, [some (vr 83), some (vr 9)], []) (MS ((cpF (up2 I 83 4 (I 9 4)) 85 11 8)) ((cpF J 84 10 8)) cc ss) _
  refine ev_n (fr' := (58, [some (vr 83), some (vr 9)], [vi 144, vi 144, vi 0, vr 86, vi 0, vr 12])) (S' := MS ((cpF (up2 I 83 4 (I 9 4)) 85 11 8)) ((cpF J 84 10 8)) cc ss) 12 rfl ?_
  refine ev_cv rfl rfl rfl ⟨Nat.le_of_ble_eq_true rfl, Nat.le_of_ble_eq_true rfl⟩ (sp_min X _ 144 144 ) ?_
  show Ev X k_X3_copyFrom (61, [some (vr 83), some (vr 9)], [vi (if 144 < 144 then 144 else 144), vi 0, vr 86, vi 0, vr 12]) (MS ((cpF (up2 I 83 4 (I 9 4)) 85 11 8)) ((cpF J 84 10 8)) cc ss) _
  refine ev_eqi (show (if 144 < 144 then 144 else 144) = 144 from rfl) ?_
  show Ev X k_X3_copyFrom (61, [some (vr 83), some (vr 9)], [vi 144, vi 0, vr 86, vi 0, vr 12]) (MS ((cpF (up2 I 83 4 (I 9 4)) 85 11 8)) ((cpF J 84 10 8)) cc ss) _
  refine ev_aci (n := 144) rfl rfl rfl (by decide) (by decide) (by decide) ?_
  show Ev X k_X3_copyFrom (64, [some (vr 83), some (vr 9)], []) (MS ((cpF ((cpF (up2 I 83 4 (I 9 4)) 85 11 8)) 86 12 144)) ((cpF J 84 10 8)) cc ss) _
  refine ev_r rfl rfl rfl ?_
  exact ⟨rfl, rfl⟩
theorem sp_cpA_75_1 (X : AX) (I J : Nat → Nat → Int) (cc ss : Nat) : Ev X k_X2_copyFrom (0, [some (vr 75), some (vr 1)], []) (MS I J cc ss) (fun o T => o = .inl none ∧ T = MS (cpA I 75 1) (cpJ J 75 1) cc ss) := by
  refine ev_n (fr' := (8, [some (vr 75), some (vr 1)], [vr 2, vr 76])) (S' := MS I J cc ss) 4 rfl ?_
  refine ev_cv rfl rfl rfl ⟨Nat.le_of_ble_eq_true rfl, Nat.le_of_ble_eq_true rfl⟩ (sp_cpS_75_1 X _ _ _ _) ?_
  show Ev X k_X2_copyFrom (11, [some (vr 75), some (vr 1)], []) (MS ((cpS I 76 2)) J cc ss) _
  refine ev_n (fr' := (19, [some (vr 75), some (vr 1)], [vr 5, vr 79])) (S' := MS ((cpS I 76 2)) J cc ss) 4 rfl ?_
  refine ev_cv rfl rfl rfl ⟨Nat.le_of_ble_eq_true rfl, Nat.le_of_ble_eq_true rfl⟩ (sp_cpR_79_5 X _ _ _ _) ?_
  show Ev X k_X2_copyFrom (22, [some (vr 75), some (vr 1)], []) (MS ((cpR ((cpS I 76 2)) 79 5 288)) ((cpF J 80 6 8)) cc ss) _
  refine ev_n (fr' := (30, [some (vr 75), some (vr 1)], [vr 9, vr 83])) (S' := MS ((cpR ((cpS I 76 2)) 79 5 288)) ((cpF J 80 6 8)) cc ss) 4 rfl ?_
  refine ev_cv rfl rfl rfl ⟨Nat.le_of_ble_eq_true rfl, Nat.le_of_ble_eq_true rfl⟩ (sp_cpR_83_9 X _ _ _ _) ?_
  show Ev X k_X2_copyFrom (33, [some (vr 75), some (vr 1)], []) (MS ((cpR ((cpR ((cpS I 76 2)) 79 5 288)) 83 9 144)) ((cpF ((cpF J 80 6 8)) 84 10 8)) cc ss) _
  refine ev_r rfl rfl rfl ?_
  exact ⟨rfl, rfl⟩
theorem sp_cpS_87_1 (X : AX) (I J : Nat → Nat → Int) (cc ss : Nat) : Ev X k_X5_copyFrom (0, [some (vr 88), some (vr 2)], []) (MS I J cc ss) (fun o T => o = .inl none ∧ T = MS (cpS I 88 2) J cc ss) := by
  refine ev_n (fr' := (5, [some (vr 88), some (vr 2)], [vi (I 2 2), vr 88])) (S' := MS I J cc ss) 3 rfl ?_
  refine ev_n (fr' := (8, [some (vr 88), some (vr 2)], [])) (S' := MS (up2 I 88 2 (I 2 2)) J cc ss) 1 rfl ?_
  refine ev_n (fr' := (19, [some (vr 88), some (vr 2)], [vi 5, vi 0, vr 89, vi 0, vr 3])) (S' := MS (up2 I 88 2 (I 2 2)) J cc ss) 7 rfl ?_
  refine ev_aci (n := 5) rfl rfl rfl (by decide) (by decide) (by decide) ?_
  show Ev X k_X5_copyFrom (22, [some (vr 88), some (vr 2)], []) (MS ((cpF (up2 I 88 2 (I 2 2)) 89 3 5)) J cc ss) _
  refine ev_n (fr' := (33, [some (vr 88), some (vr 2)], [vi 5, vi 0, vr 90, vi 0, vr 4])) (S' := MS ((cpF (up2 I 88 2 (I 2 2)) 89 3 5)) J cc ss) 7 rfl ?_
  refine ev_aci (n := 5) rfl rfl rfl (by decide) (by decide) (by decide) ?_
  show Ev X k_X5_copyFrom (36, [some (vr 88), some (vr 2)], []) (MS ((cpF ((cpF (up2 I 88 2 (I 2 2)) 89 3 5)) 90 4 5)) J cc ss) _
  refine ev_r rfl rfl rfl ?_
  exact ⟨rfl, rfl⟩
theorem sp_cpR_91_5 (X : AX) (I J : Nat → Nat → Int) (cc ss : Nat) : Ev X k_X3_copyFrom (0, [some (vr 91), some (vr 5)], []) (MS I J cc ss) (fun o T => o = .inl none ∧ T = MS (cpR I 91 5 288) (cpF J 92 6 8) cc ss) := by
  refine ev_n (fr' := (5, [some (vr 91), some (vr 5)], [vi (I 5 4), vr 91])) (S' := MS I J cc ss) 3 rfl ?_
  refine ev_n (fr' := (8, [some (vr 91), some (vr 5)], [])) (S' := MS (up2 I 91 4 (I 5 4)) J cc ss) 1 rfl ?_
  refine ev_n (fr' := (20, [some (vr 91), some (vr 5)], [vi 8, vi 0, vr 92, vi 0, vr 6])) (S' := MS (up2 I 91 4 (I 5 4)) J cc ss) 7 rfl ?_
  refine ev_acl (n := 8) rfl rfl rfl (by decide) (by decide) (by decide) ?_
  show Ev X k_X3_copyFrom (23, [some (vr 91), some (vr 5)], []) (MS (up2 I 91 4 (I 5 4)) ((cpF J 92 6 8)) cc ss) _
  refine ev_n (fr' := (35, [some (vr 91), some (vr 5)], [vi 8, vi 0, vr 93, vi 0, vr 7])) (S' := MS (up2 I 91 4 (I 5 4)) ((cpF J 92 6 8)) cc ss) 7 rfl ?_
  refine ev_aci (n := 8) rfl rfl rfl (by decide) (by decide) (by decide) ?_
  show Ev X k_X3_copyFrom (38, [some (vr 91), some (vr 5)], []) (MS ((cpF (up2 I 91 4 (I 5 4)) 93 7 8)) ((cpF J 92 6 8)) cc ss) _
  refine ev_n (fr' := (58, [some (vr 91), some (vr 5)], [vi 288, vi 288, vi 0, vr 94, vi 0, vr 8])) (S' := MS ((cpF (up2 I 91 4 (I 5 4)) 93 7 8)) ((cpF J 92 6 8)) cc ss) 12 rfl ?_
  refine ev_cv rfl rfl rfl ⟨Nat.le_of_ble_eq_true rfl, Nat.le_of_ble_eq_true rfl⟩ (sp_min X _ 288 288 ) ?_
  show Ev X k_X3_copyFrom (61, [some (vr 91), some (vr 5)], [vi (if 288 < 288 then 288 else 288), vi 0, vr 94, vi 0, vr 8]) (MS ((cpF (up2 I 91 4 (I 5 4)) 93 7 8)) ((cpF J 92 6 8)) cc ss) _
  refine ev_eqi (show (if 288 < 288 then 288 else 288) = 288 from rfl) ?_
  show Ev X k_X3_copyFrom (61, [some (vr 91), some (vr 5)], [vi 288, vi 0, vr 94, vi 0, vr 8]) (MS ((cpF (up2 I 91 4 (I 5 4)) 93 7 8)) ((cpF J 92 6 8)) cc ss) _
  refine ev_aci (n := 288) rfl rfl rfl (by decide) (by decide) (by decide) ?_
  show Ev X k_X3_copyFrom (64, [some (vr 91), some (vr 5)], []) (MS ((cpF ((cpF (up2 I 91 4 (I 5 4)) 93 7 8)) 94 8 288)) ((cpF J 92 6 8)) cc ss) _
  refine ev_r rfl rfl rfl ?_
  exact ⟨rfl, rfl⟩
theorem sp_cpR_95_9 (X : AX) (I J : Nat → Nat → Int) (cc ss : Nat) : Ev X k_X3_copyFrom (0, [some (vr 95), some (vr 9)], []) (MS I J cc ss) (fun o T => o = .inl none ∧ T = MS (cpR I 95 9 144) (cpF J 96 10 8) cc ss) := by
  refine ev_n (fr' := (5, [some (vr 95), some (vr 9)], [vi (I 9 4), vr 95])) (S' := MS I J cc ss) 3 rfl ?_
  refine ev_n (fr' := (8, [some (vr 95), some (vr 9)], [])) (S' := MS (up2 I 95 4 (I 9 4)) J cc ss) 1 rfl ?_
  refine ev_n (fr' := (20, [some (vr 95), some (vr 9)], [vi 8, vi 0, vr 96, vi 0, vr 10])) (S' := MS (up2 I 95 4 (I 9 4)) J cc ss) 7 rfl ?_
  refine ev_acl (n := 8) rfl rfl rfl (by decide) (by decide) (by decide) ?_
  show Ev X k_X3_copyFrom (23, [some (vr 95), some (vr 9)], []) (MS (up2 I 95 4 (I 9 4)) ((cpF J 96 10 8)) cc ss) _
  refine ev_n (fr' := (35, [some (vr 95), some (vr 9)], [vi 8, vi 0, vr 97, vi 0, vr 11])) (S' := MS (up2 I 95 4 (I 9 4)) ((cpF J 96 10 8)) cc ss) 7 rfl ?_
  refine ev_aci (n := 8) rfl rfl rfl (by decide) (by decide) (by decide) ?_
  show Ev X k_X3_copyFrom (38, [some (vr 95), some (vr 9)], []) (MS ((cpF (up2 I 95 4 (I 9 4)) 97 11 8)) ((cpF J 96 10 8)) cc ss) _
  refine ev_n (fr' := (58, [some (vr 95), some (vr 9)], [vi 144, vi 144, vi 0, vr 98, vi 0, vr 12])) (S' := MS ((cpF (up2 I 95 4 (I 9 4)) 97 11 8)) ((cpF J 96 10 8)) cc ss) 12 rfl ?_
  refine ev_cv rfl rfl rfl ⟨Nat.le_of_ble_eq_true rfl, Nat.le_of_ble_eq_true rfl⟩ (sp_min X _ 144 144 ) ?_
  show Ev X k_X3_copyFrom (61, [some (vr 95), some (vr 9)], [vi (if 144 < 144 then 144 else 144), vi 0, vr 98, vi 0, vr 12]) (MS ((cpF (up2 I 95 4 (I 9 4)) 97 11 8)) ((cpF J 96 10 8)) cc ss) _
  refine ev_eqi (show (if 144 < 144 then 144 else 144) = 144 from rfl) ?_
  show Ev X k_X3_copyFrom (61, [some (vr 95), some (vr 9)], [vi 144, vi 0, vr 98, vi 0, vr 12]) (MS ((cpF (up2 I 95 4 (I 9 4)) 97 11 8)) ((cpF J 96 10 8)) cc ss) _
  refine ev_aci (n := 144) rfl rfl rfl (by decide) (by decide) (by decide) ?_
  show Ev X k_X3_copyFrom (64, [some (vr 95), some (vr 9)], []) (MS ((cpF ((cpF (up2 I 95 4 (I 9 4)) 97 11 8)) 98 12 144)) ((cpF J 96 10 8)) cc ss) _
  refine ev_r rfl rfl rfl ?_
  exact ⟨rfl, rfl⟩
theorem sp_cpA_87_1 (X : AX) (I J : Nat → Nat → Int) (cc ss : Nat) : Ev X k_X2_copyFrom (0, [some (vr 87), some (vr 1)], []) (MS I J cc ss) (fun o T => o = .inl none ∧ T = MS (cpA I 87 1) (cpJ J 87 1) cc ss) := by
  refine ev_n (fr' := (8, [some (vr 87), some (vr 1)], [vr 2, vr 88])) (S' := MS I J cc ss) 4 rfl ?_
  refine ev_cv rfl rfl rfl ⟨Nat.le_of_ble_eq_true rfl, Nat.le_of_ble_eq_true rfl⟩ (sp_cpS_87_1 X _ _ _ _) ?_
  show Ev X k_X2_copyFrom (11, [some (vr 87), some (vr 1)], []) (MS ((cpS I 88 2)) J cc ss) _
  refine ev_n (fr' := (19, [some (vr 87), some (vr 1)], [vr 5, vr 91])) (S' := MS ((cpS I 88 2)) J cc ss) 4 rfl ?_
  refine ev_cv rfl rfl rfl ⟨Nat.le_of_ble_eq_true rfl, Nat.le_of_ble_eq_true rfl⟩ (sp_cpR_91_5 X _ _ _ _) ?_
  show Ev X k_X2_copyFrom (22, [some (vr 87), some (vr 1)], []) (MS ((cpR ((cpS I 88 2)) 91 5 288)) ((cpF J 92 6 8)) cc ss) _
  refine ev_n (fr' := (30, [some (vr 87), some (vr 1)], [vr 9, vr 95])) (S' := MS ((cpR ((cpS I 88 2)) 91 5 288)) ((cpF J 92 6 8)) cc ss) 4 rfl ?_
  refine ev_cv rfl rfl rfl ⟨Nat.le_of_ble_eq_true rfl, Nat.le_of_ble_eq_true rfl⟩ (sp_cpR_95_9 X _ _ _ _) ?_
  show Ev X k_X2_copyFrom (33, [some (vr 87), some (vr 1)], []) (MS ((cpR ((cpR ((cpS I 88 2)) 91 5 288)) 95 9 144)) ((cpF ((cpF J 92 6 8)) 96 10 8)) cc ss) _
  refine ev_r rfl rfl rfl ?_
  exact ⟨rfl, rfl⟩
theorem sp_cpS_99_1 (X : AX) (I J : Nat → Nat → Int) (cc ss : Nat) : Ev X k_X5_copyFrom (0, [some (vr 100), some (vr 2)], []) (MS I J cc ss) (fun o T => o = .inl none ∧ T = MS (cpS I 100 2) J cc ss) := by
  refine ev_n (fr' := (5, [some (vr 100), some (vr 2)], [vi (I 2 2), vr 100])) (S' := MS I J cc ss) 3 rfl ?_
  refine ev_n (fr' := (8, [some (vr 100), some (vr 2)], [])) (S' := MS (up2 I 100 2 (I 2 2)) J cc ss) 1 rfl ?_
  refine ev_n (fr' := (19, [some (vr 100), some (vr 2)], [vi 5, vi 0, vr 101, vi 0, vr 3])) (S' := MS (up2 I 100 2 (I 2 2)) J cc ss) 7 rfl ?_
  refine ev_aci (n := 5) rfl rfl rfl (by decide) (by decide) (by decide) ?_
  show Ev X k_X5_copyFrom (22, [some (vr 100), some (vr 2)], []) (MS ((cpF (up2 I 100 2 (I 2 2)) 101 3 5)) J cc ss) _
  refine ev_n (fr' := (33, [some (vr 100), some (vr 2)], [vi 5, vi 0, vr 102, vi 0, vr 4])) (S' := MS ((cpF (up2 I 100 2 (I 2 2)) 101 3 5)) J cc ss) 7 rfl ?_
  refine ev_aci (n := 5) rfl rfl rfl (by decide) (by decide) (by decide) ?_
  show Ev X k_X5_copyFrom (36, [some (vr 100), some (vr 2)], []) (MS ((cpF ((cpF (up2 I 100 2 (I 2 2)) 101 3 5)) 102 4 5)) J cc ss) _
  refine ev_r rfl rfl rfl ?_
  exact ⟨rfl, rfl⟩
theorem sp_cpR_103_5 (X : AX) (I J : Nat → Nat → Int) (cc ss : Nat) : Ev X k_X3_copyFrom (0, [some (vr 103), some (vr 5)], []) (MS I J cc ss) (fun o T => o = .inl none ∧ T = MS (cpR I 103 5 288) (cpF J 104 6 8) cc ss) := by
  refine ev_n (fr' := (5, [some (vr 103), some (vr 5)], [vi (I 5 4), vr 103])) (S' := MS I J cc ss) 3 rfl ?_
  refine ev_n (fr' := (8, [some (vr 103), some (vr 5)], [])) (S' := MS (up2 I 103 4 (I 5 4)) J cc ss) 1 rfl ?_
  refine ev_n (fr' := (20, [some (vr 103), some (vr 5)], [vi 8, vi 0, vr 104, vi 0, vr 6])) (S' := MS (up2 I 103 4 (I 5 4)) J cc ss) 7 rfl ?_
  refine ev_acl (n := 8) rfl rfl rfl (by decide) (by decide) (by decide) ?_
  show Ev X k_X3_copyFrom (23, [some (vr 103), some (vr 5)], []) (MS (up2 I 103 4 (I 5 4)) ((cpF J 104 6 8)) cc ss) _
  refine ev_n (fr' := (35, [some (vr 103), some (vr 5)], [vi 8, vi 0, vr 105, vi 0, vr 7])) (S' := MS (up2 I 103 4 (I 5 4)) ((cpF J 104 6 8)) cc ss) 7 rfl ?_
  refine ev_aci (n := 8) rfl rfl rfl (by decide) (by decide) (by decide) ?_
  show Ev X k_X3_copyFrom (38, [some (vr 103), some (vr 5)], []) (MS ((cpF (up2 I 103 4 (I 5 4)) 105 7 8)) ((cpF J 104 6 8)) cc ss) _
  refine ev_n (fr' := (58, [some (vr 103), some (vr 5)], [vi 288, vi 288, vi 0, vr 106, vi 0, vr 8])) (S' := MS ((cpF (up2 I 103 4 (I 5 4)) 105 7 8)) ((cpF J 104 6 8)) cc ss) 12 rfl ?_
  refine ev_cv rfl rfl rfl ⟨Nat.le_of_ble_eq_true rfl, Nat.le_of_ble_eq_true rfl⟩ (sp_min X _ 288 288 ) ?_
  show Ev X k_X3_copyFrom (61, [some (vr 103), some (vr 5)], [vi (if 288 < 288 then 288 else 288), vi 0, vr 106, vi 0, vr 8]) (MS ((cpF (up2 I 103 4 (I 5 4)) 105 7 8)) ((cpF J 104 6 8)) cc ss) _
  refine ev_eqi (show (if 288 < 288 then 288 else 288) = 288 from rfl) ?_
  show Ev X k_X3_copyFrom (61, [some (vr 103), some (vr 5)], [vi 288, vi 0, vr 106, vi 0, vr 8]) (MS ((cpF (up2 I 103 4 (I 5 4)) 105 7 8)) ((cpF J 104 6 8)) cc ss) _
  refine ev_aci (n := 288) rfl rfl rfl (by decide) (by decide) (by decide) ?_
  show Ev X k_X3_copyFrom (64, [some (vr 103), some (vr 5)], []) (MS ((cpF ((cpF (up2 I 103 4 (I 5 4)) 105 7 8)) 106 8 288)) ((cpF J 104 6 8)) cc ss) _
  refine ev_r rfl rfl rfl ?_
  exact ⟨rfl, rfl⟩
theorem sp_cpR_107_9 (X : AX) (I J : Nat → Nat → Int) (cc ss : Nat) : Ev X k_X3_copyFrom (0, [some (vr 107), some (vr 9)], []) (MS I J cc ss) (fun o T => o = .inl none ∧ T = MS (cpR I 107 9 144) (cpF J 108 10 8) cc ss) := by
  refine ev_n (fr' := (5, [some (vr 107), some (vr 9)], [vi (I 9 4), vr 107])) (S' := MS I J cc ss) 3 rfl ?_
  refine ev_n (fr' := (8, [some (vr 107), some (vr 9)], [])) (S' := MS (up2 I 107 4 (I 9 4)) J cc ss) 1 rfl ?_
  refine ev_n (fr' := (20, [some (vr 107), some (vr 9)], [vi 8, vi 0, vr 108, vi 0, vr 10])) (S' := MS (up2 I 107 4 (I 9 4)) J cc ss) 7 rfl ?_
  refine ev_acl (n := 8) rfl rfl rfl (by decide) (by decide) (by decide) ?_
  show Ev X k_X3_copyFrom (23, [some (vr 107), some (vr 9)], []) (MS (up2 I 107 4 (I 9 4)) ((cpF J 108 10 8)) cc ss) _
  refine ev_n (fr' := (35, [some (vr 107), some (vr 9)], [vi 8, vi 0, vr 109, vi 0, vr 11])) (S' := MS (up2 I 107 4 (I 9 4)) ((cpF J 108 10 8)) cc ss) 7 rfl ?_
  refine ev_aci (n := 8) rfl rfl rfl (by decide) (by decide) (by decide) ?_
  show Ev X k_X3_copyFrom (38, [some (vr 107), some (vr 9)], []) (MS ((cpF (up2 I 107 4 (I 9 4)) 109 11 8)) ((cpF J 108 10 8)) cc ss) _
  refine ev_n (fr' := (58, [some (vr 107), some (vr 9)], [vi 144, vi 144, vi 0, vr 110, vi 0, vr 12])) (S' := MS ((cpF (up2 I 107 4 (I 9 4)) 109 11 8)) ((cpF J 108 10 8)) cc ss) 12 rfl ?_
  refine ev_cv rfl rfl rfl ⟨Nat.le_of_ble_eq_true rfl, Nat.le_of_ble_eq_true rfl⟩ (sp_min X _ 144 144 ) ?_
  show Ev X k_X3_copyFrom (61, [some (vr 107), some (vr 9)], [vi (if 144 < 144 then 144 else 144), vi 0, vr 110, vi 0, vr 12]) (MS ((cpF (up2 I 107 4 (I 9 4)) 109 11 8)) ((cpF J 108 10 8)) cc ss) _
  refine ev_eqi (show (if 144 < 144 then 144 else 144) = 144 from rfl) ?_
  show Ev X k_X3_copyFrom (61, [some (vr 107), some (vr 9)], [vi 144, vi 0, vr 110, vi 0, vr 12]) (MS ((cpF (up2 I 107 4 (I 9 4)) 109 11 8)) ((cpF J 108 10 8)) cc ss) _
  refine ev_aci (n := 144) rfl rfl rfl (by decide) (by decide) (by decide) ?_
  show Ev X k_X3_copyFrom (64, [some (vr 107), some (vr 9)], []) (MS ((cpF ((cpF (up2 I 107 4 (I 9 4)) 109 11 8)) 110 12 144)) ((cpF J 108 10 8)) cc ss) _
  refine ev_r rfl rfl rfl ?_
  exact ⟨rfl, rfl⟩
theorem sp_cpA_99_1 (X : AX) (I J : Nat → Nat → Int) (cc ss : Nat) : Ev X k_X2_copyFrom (0, [some (vr 99), some (vr 1)], []) (MS I J cc ss) (fun o T => o = .inl none ∧ T = MS (cpA I 99 1) (cpJ J 99 1) cc ss) := by
  refine ev_n (fr' := (8, [some (vr 99), some (vr 1)], [vr 2, vr 100])) (S' := MS I J cc ss) 4 rfl ?_
  refine ev_cv rfl rfl rfl ⟨Nat.le_of_ble_eq_true rfl, Nat.le_of_ble_eq_true rfl⟩ (sp_cpS_99_1 X _ _ _ _) ?_
  show Ev X k_X2_copyFrom (11, [some (vr 99), some (vr 1)], []) (MS ((cpS I 100 2)) J cc ss) _
  refine ev_n (fr' := (19, [some (vr 99), some (vr 1)], [vr 5, vr 103])) (S' := MS ((cpS I 100 2)) J cc ss) 4 rfl ?_
  refine ev_cv rfl rfl rfl ⟨Nat.le_of_ble_eq_true rfl, Nat.le_of_ble_eq_true rfl⟩ (sp_cpR_103_5 X _ _ _ _) ?_
  show Ev X k_X2_copyFrom (22, [some (vr 99), some (vr 1)], []) (MS ((cpR ((cpS I 100 2)) 103 5 288)) ((cpF J 104 6 8)) cc ss) _
  refine ev_n (fr' := (30, [some (vr 99), some (vr 1)], [vr 9, vr 107])) (S' := MS ((cpR ((cpS I 100 2)) 103 5 288)) ((cpF J 104 6 8)) cc ss) 4 rfl ?_
  refine ev_cv rfl rfl rfl ⟨Nat.le_of_ble_eq_true rfl, Nat.le_of_ble_eq_true rfl⟩ (sp_cpR_107_9 X _ _ _ _) ?_
  show Ev X k_X2_copyFrom (33, [some (vr 99), some (vr 1)], []) (MS ((cpR ((cpR ((cpS I 100 2)) 103 5 288)) 107 9 144)) ((cpF ((cpF J 104 6 8)) 108 10 8)) cc ss) _
  refine ev_r rfl rfl rfl ?_
  exact ⟨rfl, rfl⟩
theorem sp_cpS_1_15 (X : AX) (I J : Nat → Nat → Int) (cc ss : Nat) : Ev X k_X5_copyFrom (0, [some (vr 2), some (vr 16)], []) (MS I J cc ss) (fun o T => o = .inl none ∧ T = MS (cpS I 2 16) J cc ss) := by
  refine ev_n (fr' := (5, [some (vr 2), some (vr 16)], [vi (I 16 2), vr 2])) (S' := MS I J cc ss) 3 rfl ?_
  refine ev_n (fr' := (8, [some (vr 2), some (vr 16)], [])) (S' := MS (up2 I 2 2 (I 16 2)) J cc ss) 1 rfl ?_
  refine ev_n (fr' := (19, [some (vr 2), some (vr 16)], [vi 5, vi 0, vr 3, vi 0, vr 17])) (S' := MS (up2 I 2 2 (I 16 2)) J cc ss) 7 rfl ?_
  refine ev_aci (n := 5) rfl rfl rfl (by decide) (by decide) (by decide) ?_
  show Ev X k_X5_copyFrom (22, [some (vr 2), some (vr 16)], []) (MS ((cpF (up2 I 2 2 (I 16 2)) 3 17 5)) J cc ss) _
  refine ev_n (fr' := (33, [some (vr 2), some (vr 16)], [vi 5, vi 0, vr 4, vi 0, vr 18])) (S' := MS ((cpF (up2 I 2 2 (I 16 2)) 3 17 5)) J cc ss) 7 rfl ?_
  refine ev_aci (n := 5) rfl rfl rfl (by decide) (by decide) (by decide) ?_
  show Ev X k_X5_copyFrom (36, [some (vr 2), some (vr 16)], []) (MS ((cpF ((cpF (up2 I 2 2 (I 16 2)) 3 17 5)) 4 18 5)) J cc ss) _
  refine ev_r rfl rfl rfl ?_
  exact ⟨rfl, rfl⟩
theorem sp_cpR_5_19 (X : AX) (I J : Nat → Nat → Int) (cc ss : Nat) : Ev X k_X3_copyFrom (0, [some (vr 5), some (vr 19)], []) (MS I J cc ss) (fun o T => o = .inl none ∧ T = MS (cpR I 5 19 288) (cpF J 6 20 8) cc ss) := by
  refine ev_n (fr' := (5, [some (vr 5), some (vr 19)], [vi (I 19 4), vr 5])) (S' := MS I J cc ss) 3 rfl ?_
  refine ev_n (fr' := (8, [some (vr 5), some (vr 19)], [])) (S' := MS (up2 I 5 4 (I 19 4)) J cc ss) 1 rfl ?_
  refine ev_n (fr' := (20, [some (vr 5), some (vr 19)], [vi 8, vi 0, vr 6, vi 0, vr 20])) (S' := MS (up2 I 5 4 (I 19 4)) J cc ss) 7 rfl ?_
  refine ev_acl (n := 8) rfl rfl rfl (by decide) (by decide) (by decide) ?_
  show Ev X k_X3_copyFrom (23, [some (vr 5), some (vr 19)], []) (MS (up2 I 5 4 (I 19 4)) ((cpF J 6 20 8)) cc ss) _
  refine ev_n (fr' := (35, [some (vr 5), some (vr 19)], [vi 8, vi 0, vr 7, vi 0, vr 21])) (S' := MS (up2 I 5 4 (I 19 4)) ((cpF J 6 20 8)) cc ss) 7 rfl ?_
  refine ev_aci (n := 8) rfl rfl rfl (by decide) (by decide) (by decide) ?_
  show Ev X k_X3_copyFrom (38, [some (vr 5), some (vr 19)], []) (MS ((cpF (up2 I 5 4 (I 19 4)) 7 21 8)) ((cpF J 6 20 8)) cc ss) _
  refine ev_n (fr' := (58, [some (vr 5), some (vr 19)], [vi 288, vi 288, vi 0, vr 8, vi 0, vr 22])) (S' := MS ((cpF (up2 I 5 4 (I 19 4)) 7 21 8)) ((cpF J 6 20 8)) cc ss) 12 rfl ?_
  refine ev_cv rfl rfl rfl ⟨Nat.le_of_ble_eq_true rfl, Nat.le_of_ble_eq_true rfl⟩ (sp_min X _ 288 288 ) ?_
  show Ev X k_X3_copyFrom (61, [some (vr 5), some (vr 19)], [vi (if 288 < 288 then 288 else 288), vi 0, vr 8, vi 0, vr 22]) (MS ((cpF (up2 I 5 4 (I 19 4)) 7 21 8)) ((cpF J 6 20 8)) cc ss) _
  refine ev_eqi (show (if 288 < 288 then 288 else 288) = 288 from rfl) ?_
  show Ev X k_X3_copyFrom (61, [some (vr 5), some (vr 19)], [vi 288, vi 0, vr 8, vi 0, vr 22]) (MS ((cpF (up2 I 5 4 (I 19 4)) 7 21 8)) ((cpF J 6 20 8)) cc ss) _
  refine ev_aci (n := 288) rfl rfl rfl (by decide) (by decide) (by decide) ?_
  show Ev X k_X3_copyFrom (64, [some (vr 5), some (vr 19)], []) (MS ((cpF ((cpF (up2 I 5 4 (I 19 4)) 7 21 8)) 8 22 288)) ((cpF J 6 20 8)) cc ss) _
  refine ev_r rfl rfl rfl ?_
  exact ⟨rfl, rfl⟩
theorem sp_cpR_9_23 (X : AX) (I J : Nat → Nat → Int) (cc ss : Nat) : Ev X k_X3_copyFrom (0, [some (vr 9), some (vr 23)], []) (MS I J cc ss) (fun o T => o = .inl none ∧ T = MS (cpR I 9 23 144) (cpF J 10 24 8) cc ss) := by
  refine ev_n (fr' := (5, [some (vr 9), some (vr 23)], [vi (I 23 4), vr 9])) (S' := MS I J cc ss) 3 rfl ?_
  refine ev_n (fr' := (8, [some (vr 9), some (vr 23)], [])) (S' := MS (up2 I 9 4 (I 23 4)) J cc ss) 1 rfl ?_
  refine ev_n (fr' := (20, [some (vr 9), some (vr 23)], [vi 8, vi 0, vr 10, vi 0, vr 24])) (S' := MS (up2 I 9 4 (I 23 4)) J cc ss) 7 rfl ?_
  refine ev_acl (n := 8) rfl rfl rfl (by decide) (by decide) (by decide) ?_
  show Ev X k_X3_copyFrom (23, [some (vr 9), some (vr 23)], []) (MS (up2 I 9 4 (I 23 4)) ((cpF J 10 24 8)) cc ss) _
  refine ev_n (fr' := (35, [some (vr 9), some (vr 23)], [vi 8, vi 0, vr 11, vi 0, vr 25])) (S' := MS (up2 I 9 4 (I 23 4)) ((cpF J 10 24 8)) cc ss) 7 rfl ?_
  refine ev_aci (n := 8) rfl rfl rfl (by decide) (by decide) (by decide) ?_
  show Ev X k_X3_copyFrom (38, [some (vr 9), some (vr 23)], []) (MS ((cpF (up2 I 9 4 (I 23 4)) 11 25 8)) ((cpF J 10 24 8)) cc ss) _
  refine ev_n (fr' := (58, [some (vr 9), some (vr 23)], [vi 144, vi 144, vi 0, vr 12, vi 0, vr 26])) (S' := MS ((cpF (up2 I 9 4 (I 23 4)) 11 25 8)) ((cpF J 10 24 8)) cc ss) 12 rfl ?_
  refine ev_cv rfl rfl rfl ⟨Nat.le_of_ble_eq_true rfl, Nat.le_of_ble_eq_true rfl⟩ (sp_min X _ 144 144 ) ?_
  show Ev X k_X3_copyFrom (61, [some (vr 9), some (vr 23)], [vi (if 144 < 144 then 144 else 144), vi 0, vr 12, vi 0, vr 26]) (MS ((cpF (up2 I 9 4 (I 23 4)) 11 25 8)) ((cpF J 10 24 8)) cc ss) _
  refine ev_eqi (show (if 144 < 144 then 144 else 144) = 144 from rfl) ?_
  show Ev X k_X3_copyFrom (61, [some (vr 9), some (vr 23)], [vi 144, vi 0, vr 12, vi 0, vr 26]) (MS ((cpF (up2 I 9 4 (I 23 4)) 11 25 8)) ((cpF J 10 24 8)) cc ss) _
  refine ev_aci (n := 144) rfl rfl rfl (by decide) (by decide) (by decide) ?_
  show Ev X k_X3_copyFrom (64, [some (vr 9), some (vr 23)], []) (MS ((cpF ((cpF (up2 I 9 4 (I 23 4)) 11 25 8)) 12 26 144)) ((cpF J 10 24 8)) cc ss) _
  refine ev_r rfl rfl rfl ?_
  exact ⟨rfl, rfl⟩
theorem sp_cpA_1_15 (X : AX) (I J : Nat → Nat → Int) (cc ss : Nat) : Ev X k_X2_copyFrom (0, [some (vr 1), some (vr 15)], []) (MS I J cc ss) (fun o T => o = .inl none ∧ T = MS (cpA I 1 15) (cpJ J 1 15) cc ss) := by
  refine ev_n (fr' := (8, [some (vr 1), some (vr 15)], [vr 16, vr 2])) (S' := MS I J cc ss) 4 rfl ?_
  refine ev_cv rfl rfl rfl ⟨Nat.le_of_ble_eq_true rfl, Nat.le_of_ble_eq_true rfl⟩ (sp_cpS_1_15 X _ _ _ _) ?_
  show Ev X k_X2_copyFrom (11, [some (vr 1), some (vr 15)], []) (MS ((cpS I 2 16)) J cc ss) _
  refine ev_n (fr' := (19, [some (vr 1), some (vr 15)], [vr 19, vr 5])) (S' := MS ((cpS I 2 16)) J cc ss) 4 rfl ?_
  refine ev_cv rfl rfl rfl ⟨Nat.le_of_ble_eq_true rfl, Nat.le_of_ble_eq_true rfl⟩ (sp_cpR_5_19 X _ _ _ _) ?_
  show Ev X k_X2_copyFrom (22, [some (vr 1), some (vr 15)], []) (MS ((cpR ((cpS I 2 16)) 5 19 288)) ((cpF J 6 20 8)) cc ss) _
  refine ev_n (fr' := (30, [some (vr 1), some (vr 15)], [vr 23, vr 9])) (S' := MS ((cpR ((cpS I 2 16)) 5 19 288)) ((cpF J 6 20 8)) cc ss) 4 rfl ?_
  refine ev_cv rfl rfl rfl ⟨Nat.le_of_ble_eq_true rfl, Nat.le_of_ble_eq_true rfl⟩ (sp_cpR_9_23 X _ _ _ _) ?_
  show Ev X k_X2_copyFrom (33, [some (vr 1), some (vr 15)], []) (MS ((cpR ((cpR ((cpS I 2 16)) 5 19 288)) 9 23 144)) ((cpF ((cpF J 6 20 8)) 10 24 8)) cc ss) _
  refine ev_r rfl rfl rfl ?_
  exact ⟨rfl, rfl⟩
theorem sp_cpS_1_27 (X : AX) (I J : Nat → Nat → Int) (cc ss : Nat) : Ev X k_X5_copyFrom (0, [some (vr 2), some (vr 28)], []) (MS I J cc ss) (fun o T => o = .inl none ∧ T = MS (cpS I 2 28) J cc ss) := by
  refine ev_n (fr' := (5, [some (vr 2), some (vr 28)], [vi (I 28 2), vr 2])) (S' := MS I J cc ss) 3 rfl ?_
  refine ev_n (fr' := (8, [some (vr 2), some (vr 28)], [])) (S' := MS (up2 I 2 2 (I 28 2)) J cc ss) 1 rfl ?_
  refine ev_n (fr' := (19, [some (vr 2), some (vr 28)], [vi 5, vi 0, vr 3, vi 0, vr 29])) (S' := MS (up2 I 2 2 (I 28 2)) J cc ss) 7 rfl ?_
  refine ev_aci (n := 5) rfl rfl rfl (by decide) (by decide) (by decide) ?_
  show Ev X k_X5_copyFrom (22, [some (vr 2), some (vr 28)], []) (MS ((cpF (up2 I 2 2 (I 28 2)) 3 29 5)) J cc ss) _
  refine ev_n (fr' := (33, [some (vr 2), some (vr 28)], [vi 5, vi 0, vr 4, vi 0, vr 30])) (S' := MS ((cpF (up2 I 2 2 (I 28 2)) 3 29 5)) J cc ss) 7 rfl ?_
  refine ev_aci (n := 5) rfl rfl rfl (by decide) (by decide) (by decide) ?_
  show Ev X k_X5_copyFrom (36, [some (vr 2), some (vr 28)], []) (MS ((cpF ((cpF (up2 I 2 2 (I 28 2)) 3 29 5)) 4 30 5)) J cc ss) _
  refine ev_r rfl rfl rfl ?_
  exact ⟨rfl, rfl⟩
theorem sp_cpR_5_31 (X : AX) (I J : Nat → Nat → Int) (cc ss : Nat) : Ev X k_X3_copyFrom (0, [some (vr 5), some (vr 31)], []) (MS I J cc ss) (fun o T => o = .inl none ∧ T = MS (cpR I 5 31 288) (cpF J 6 32 8) cc ss) := by
  refine ev_n (fr' := (5, [some (vr 5), some (vr 31)], [vi (I 31 4), vr 5])) (S' := MS I J cc ss) 3 rfl ?_
  refine ev_n (fr' := (8, [some (vr 5), some (vr 31)], [])) (S' := MS (up2 I 5 4 (I 31 4)) J cc ss) 1 rfl ?_
  refine ev_n (fr' := (20, [some (vr 5), some (vr 31)], [vi 8, vi 0, vr 6, vi 0, vr 32])) (S' := MS (up2 I 5 4 (I 31 4)) J cc ss) 7 rfl ?_
  refine ev_acl (n := 8) rfl rfl rfl (by decide) (by decide) (by decide) ?_
  show Ev X k_X3_copyFrom (23, [some (vr 5), some (vr 31)], []) (MS (up2 I 5 4 (I 31 4)) ((cpF J 6 32 8)) cc ss) _
  refine ev_n (fr' := (35, [some (vr 5), some (vr 31)], [vi 8, vi 0, vr 7, vi 0, vr 33])) (S' := MS (up2 I 5 4 (I 31 4)) ((cpF J 6 32 8)) cc ss) 7 rfl ?_
  refine ev_aci (n := 8) rfl rfl rfl (by decide) (by decide) (by decide) ?_
  show Ev X k_X3_copyFrom (38, [some (vr 5), some (vr 31)], []) (MS ((cpF (up2 I 5 4 (I 31 4)) 7 33 8)) ((cpF J 6 32 8)) cc ss) _
  refine ev_n (fr' := (58, [some (vr 5), some (vr 31)], [vi 288, vi 288, vi 0, vr 8, vi 0, vr 34])) (S' := MS ((cpF (up2 I 5 4 (I 31 4)) 7 33 8)) ((cpF J 6 32 8)) cc ss) 12 rfl ?_
  refine ev_cv rfl rfl rfl ⟨Nat.le_of_ble_eq_true rfl, Nat.le_of_ble_eq_true rfl⟩ (sp_min X _ 288 288 ) ?_
  show Ev X k_X3_copyFrom (61, [some (vr 5), some (vr 31)], [vi (if 288 < 288 then 288 else 288), vi 0, vr 8, vi 0, vr 34]) (MS ((cpF (up2 I 5 4 (I 31 4)) 7 33 8)) ((cpF J 6 32 8)) cc ss) _
  refine ev_eqi (show (if 288 < 288 then 288 else 288) = 288 from rfl) ?_
  show Ev X k_X3_copyFrom (61, [some (vr 5), some (vr 31)], [vi 288, vi 0, vr 8, vi 0, vr 34]) (MS ((cpF (up2 I 5 4 (I 31 4)) 7 33 8)) ((cpF J 6 32 8)) cc ss) _
  refine ev_aci (n := 288) rfl rfl rfl (by decide) (by decide) (by decide) ?_
  show Ev X k_X3_copyFrom (64, [some (vr 5), some (vr 31)], []) (MS ((cpF ((cpF (up2 I 5 4 (I 31 4)) 7 33 8)) 8 34 288)) ((cpF J 6 32 8)) cc ss) _
  refine ev_r rfl rfl rfl ?_
  exact ⟨rfl, rfl⟩
theorem sp_cpR_9_35 (X : AX) (I J : Nat → Nat → Int) (cc ss : Nat) : Ev X k_X3_copyFrom (0, [some (vr 9), some (vr 35)], []) (MS I J cc ss) (fun o T => o = .inl none ∧ T = MS (cpR I 9 35 144) (cpF J 10 36 8) cc ss) := by
  refine ev_n (fr' := (5, [some (vr 9), some (vr 35)], [vi (I 35 4), vr 9])) (S' := MS I J cc ss) 3 rfl ?_
  refine ev_n (fr' := (8, [some (vr 9), some (vr 35)], [])) (S' := MS (up2 I 9 4 (I 35 4)) J cc ss) 1 rfl ?_
  refine ev_n (fr' := (20, [some (vr 9), some (vr 35)], [vi 8, vi 0, vr 10, vi 0, vr 36])) (S' := MS (up2 I 9 4 (I 35 4)) J cc ss) 7 rfl ?_
  refine ev_acl (n := 8) rfl rfl rfl (by decide) (by decide) (by decide) ?_
  show Ev X k_X3_copyFrom (23, [some (vr 9), some (vr 35)], []) (MS (up2 I 9 4 (I 35 4)) ((cpF J 10 36 8)) cc ss) _
  refine ev_n (fr' := (35, [some (vr 9), some (vr 35)], [vi 8, vi 0, vr 11, vi 0, vr 37])) (S' := MS (up2 I 9 4 (I 35 4)) ((cpF J 10 36 8)) cc ss) 7 rfl ?_
  refine ev_aci (n := 8) rfl rfl rfl (by decide) (by decide) (by decide) ?_
  show Ev X k_X3_copyFrom (38, [some (vr 9), some (vr 35)], []) (MS ((cpF (up2 I 9 4 (I 35 4)) 11 37 8)) ((cpF J 10 36 8)) cc ss) _
  refine ev_n (fr' := (58, [some (vr 9), some (vr 35)], [vi 144, vi 144, vi 0, vr 12, vi 0, vr 38])) (S' := MS ((cpF (up2 I 9 4 (I 35 4)) 11 37 8)) ((cpF J 10 36 8)) cc ss) 12 rfl ?_
  refine ev_cv rfl rfl rfl ⟨Nat.le_of_ble_eq_true rfl, Nat.le_of_ble_eq_true rfl⟩ (sp_min X _ 144 144 ) ?_
  show Ev X k_X3_copyFrom (61, [some (vr 9), some (vr 35)], [vi (if 144 < 144 then 144 else 144), vi 0, vr 12, vi 0, vr 38]) (MS ((cpF (up2 I 9 4 (I 35 4)) 11 37 8)) ((cpF J 10 36 8)) cc ss) _
  refine ev_eqi (show (if 144 < 144 then 144 else 144) = 144 from rfl) ?_
  show Ev X k_X3_copyFrom (61, [some (vr 9), some (vr 35)], [vi 144, vi 0, vr 12, vi 0, vr 38]) (MS ((cpF (up2 I 9 4 (I 35 4)) 11 37 8)) ((cpF J 10 36 8)) cc ss) _
  refine ev_aci (n := 144) rfl rfl rfl (by decide) (by decide) (by decide) ?_
  show Ev X k_X3_copyFrom (64, [some (vr 9), some (vr 35)], []) (MS ((cpF ((cpF (up2 I 9 4 (I 35 4)) 11 37 8)) 12 38 144)) ((cpF J 10 36 8)) cc ss) _
  refine ev_r rfl rfl rfl ?_
  exact ⟨rfl, rfl⟩
theorem sp_cpA_1_27 (X : AX) (I J : Nat → Nat → Int) (cc ss : Nat) : Ev X k_X2_copyFrom (0, [some (vr 1), some (vr 27)], []) (MS I J cc ss) (fun o T => o = .inl none ∧ T = MS (cpA I 1 27) (cpJ J 1 27) cc ss) := by
  refine ev_n (fr' := (8, [some (vr 1), some (vr 27)], [vr 28, vr 2])) (S' := MS I J cc ss) 4 rfl ?_
  refine ev_cv rfl rfl rfl ⟨Nat.le_of_ble_eq_true rfl, Nat.le_of_ble_eq_true rfl⟩ (sp_cpS_1_27 X _ _ _ _) ?_
  show Ev X k_X2_copyFrom (11, [some (vr 1), some (vr 27)], []) (MS ((cpS I 2 28)) J cc ss) _
  refine ev_n (fr' := (19, [some (vr 1), some (vr 27)], [vr 31, vr 5])) (S' := MS ((cpS I 2 28)) J cc ss) 4 rfl ?_
  refine ev_cv rfl rfl rfl ⟨Nat.le_of_ble_eq_true rfl, Nat.le_of_ble_eq_true rfl⟩ (sp_cpR_5_31 X _ _ _ _) ?_
  show Ev X k_X2_copyFrom (22, [some (vr 1), some (vr 27)], []) (MS ((cpR ((cpS I 2 28)) 5 31 288)) ((cpF J 6 32 8)) cc ss) _
  refine ev_n (fr' := (30, [some (vr 1), some (vr 27)], [vr 35, vr 9])) (S' := MS ((cpR ((cpS I 2 28)) 5 31 288)) ((cpF J 6 32 8)) cc ss) 4 rfl ?_
  refine ev_cv rfl rfl rfl ⟨Nat.le_of_ble_eq_true rfl, Nat.le_of_ble_eq_true rfl⟩ (sp_cpR_9_35 X _ _ _ _) ?_
  show Ev X k_X2_copyFrom (33, [some (vr 1), some (vr 27)], []) (MS ((cpR ((cpR ((cpS I 2 28)) 5 31 288)) 9 35 144)) ((cpF ((cpF J 6 32 8)) 10 36 8)) cc ss) _
  refine ev_r rfl rfl rfl ?_
  exact ⟨rfl, rfl⟩
theorem sp_cpS_1_39 (X : AX) (I J : Nat → Nat → Int) (cc ss : Nat) : Ev X k_X5_copyFrom (0, [some (vr 2), some (vr 40)], []) (MS I J cc ss) (fun o T => o = .inl none ∧ T = MS (cpS I 2 40) J cc ss) := by
  refine ev_n (fr' := (5, [some (vr 2), some (vr 40)], [vi (I 40 2), vr 2])) (S' := MS I J cc ss) 3 rfl ?_
  refine ev_n (fr' := (8, [some (vr 2), some (vr 40)], [])) (S' := MS (up2 I 2 2 (I 40 2)) J cc ss) 1 rfl ?_
  refine ev_n (fr' := (19, [some (vr 2), some (vr 40)], [vi 5, vi 0, vr 3, vi 0, vr 41])) (S' := MS (up2 I 2 2 (I 40 2)) J cc ss) 7 rfl ?_
  refine ev_aci (n := 5) rfl rfl rfl (by decide) (by decide) (by decide) ?_
  show Ev X k_X5_copyFrom (22, [some (vr 2), some (vr 40)], []) (MS ((cpF (up2 I 2 2 (I 40 2)) 3 41 5)) J cc ss) _
  refine ev_n (fr' := (33, [some (vr 2), some (vr 40)], [vi 5, vi 0, vr 4, vi 0, vr 42])) (S' := MS ((cpF (up2 I 2 2 (I 40 2)) 3 41 5)) J cc ss) 7 rfl ?_
  refine ev_aci (n := 5) rfl rfl rfl (by decide) (by decide) (by decide) ?_
  show Ev X k_X5_copyFrom (36, [some (vr 2), some (vr 40)], []) (MS ((cpF ((cpF (up2 I 2 2 (I 40 2)) 3 41 5)) 4 42 5)) J cc ss) _
  refine ev_r rfl rfl rfl ?_
  exact ⟨rfl, rfl⟩
theorem sp_cpR_5_43 (X : AX) (I J : Nat → Nat → Int) (cc ss : Nat) : Ev X k_X3_copyFrom (0, [some (vr 5), some (vr 43)], []) (MS I J cc ss) (fun o T => o = .inl none ∧ T = MS (cpR I 5 43 288) (cpF J 6 44 8) cc ss) := by
  refine ev_n (fr' := (5, [some (vr 5), some (vr 43)], [vi (I 43 4), vr 5])) (S' := MS I J cc ss) 3 rfl ?_
  refine ev_n (fr' := (8, [some (vr 5), some (vr 43)], [])) (S' := MS (up2 I 5 4 (I 43 4)) J cc ss) 1 rfl ?_
  refine ev_n (fr' := (20, [some (vr 5), some (vr 43)], [vi 8, vi 0, vr 6, vi 0, vr 44])) (S' := MS (up2 I 5 4 (I 43 4)) J cc ss) 7 rfl ?_
  refine ev_acl (n := 8) rfl rfl rfl (by decide) (by decide) (by decide) ?_
  show Ev X k_X3_copyFrom (23, [some (vr 5), some (vr 43)], []) (MS (up2 I 5 4 (I 43 4)) ((cpF J 6 44 8)) cc ss) _
  refine ev_n (fr' := (35, [some (vr 5), some (vr 43)], [vi 8, vi 0, vr 7, vi 0, vr 45])) (S' := MS (up2 I 5 4 (I 43 4)) ((cpF J 6 44 8)) cc ss) 7 rfl ?_
  refine ev_aci (n := 8) rfl rfl rfl (by decide) (by decide) (by decide) ?_
  show Ev X k_X3_copyFrom (38, [some (vr 5), some (vr 43)], []) (MS ((cpF (up2 I 5 4 (I 43 4)) 7 45 8)) ((cpF J 6 44 8)) cc ss) _
  refine ev_n (fr' := (58, [some (vr 5), some (vr 43)], [vi 288, vi 288, vi 0, vr 8, vi 0, vr 46])) (S' := MS ((cpF (up2 I 5 4 (I 43 4)) 7 45 8)) ((cpF J 6 44 8)) cc ss) 12 rfl ?_
  refine ev_cv rfl rfl rfl ⟨Nat.le_of_ble_eq_true rfl, Nat.le_of_ble_eq_true rfl⟩ (sp_min X _ 288 288 ) ?_
  show Ev X k_X3_copyFrom (61, [some (vr 5), some (vr 43)], [vi (if 288 < 288 then 288 else 288), vi 0, vr 8, vi 0, vr 46]) (MS ((cpF (up2 I 5 4 (I 43 4)) 7 45 8)) ((cpF J 6 44 8)) cc ss) _
  refine ev_eqi (show (if 288 < 288 then 288 else 288) = 288 from rfl) ?_
  show Ev X k_X3_copyFrom (61, [some (vr 5), some (vr 43)], [vi 288, vi 0, vr 8, vi 0, vr 46]) (MS ((cpF (up2 I 5 4 (I 43 4)) 7 45 8)) ((cpF J 6 44 8)) cc ss) _
  refine ev_aci (n := 288) rfl rfl rfl (by decide) (by decide) (by decide) ?_
  show Ev X k_X3_copyFrom (64, [some (vr 5), some (vr 43)], []) (MS ((cpF ((cpF (up2 I 5 4 (I 43 4)) 7 45 8)) 8 46 288)) ((cpF J 6 44 8)) cc ss) _
  refine ev_r rfl rfl rfl ?_
  exact ⟨rfl, rfl⟩
theorem sp_cpR_9_47 (X : AX) (I J : Nat → Nat → Int) (cc ss : Nat) : Ev X k_X3_copyFrom (0, [some (vr 9), some (vr 47)], []) (MS I J cc ss) (fun o T => o = .inl none ∧ T = MS (cpR I 9 47 144) (cpF J 10 48 8) cc ss) := by
  refine ev_n (fr' := (5, [some (vr 9), some (vr 47)], [vi (I 47 4), vr 9])) (S' := MS I J cc ss) 3 rfl ?_
  refine ev_n (fr' := (8, [some (vr 9), some (vr 47)], [])) (S' := MS (up2 I 9 4 (I 47 4)) J cc ss) 1 rfl ?_
  refine ev_n (fr' := (20, [some (vr 9), some (vr 47)], [vi 8, vi 0, vr 10, vi 0, vr 48])) (S' := MS (up2 I 9 4 (I 47 4)) J cc ss) 7 rfl ?_
  refine ev_acl (n := 8) rfl rfl rfl (by decide) (by decide) (by decide) ?_
  show Ev X k_X3_copyFrom (23, [some (vr 9), some (vr 47)], []) (MS (up2 I 9 4 (I 47 4)) ((cpF J 10 48 8)) cc ss) _
  refine ev_n (fr' := (35, [some (vr 9), some (vr 47)], [vi 8, vi 0, vr 11, vi 0, vr 49])) (S' := MS (up2 I 9 4 (I 47 4)) ((cpF J 10 48 8)) cc ss) 7 rfl ?_
  refine ev_aci (n := 8) rfl rfl rfl (by decide) (by decide) (by decide) ?_
  show Ev X k_X3_copyFrom (38, [some (vr 9), some (vr 47)], []) (MS ((cpF (up2 I 9 4 (I 47 4)) 11 49 8)) ((cpF J 10 48 8)) cc ss) _
  refine ev_n (fr' := (58, [some (vr 9), some (vr 47)], [vi 144, vi 144, vi 0, vr 12, vi 0, vr 50])) (S' := MS ((cpF (up2 I 9 4 (I 47 4)) 11 49 8)) ((cpF J 10 48 8)) cc ss) 12 rfl ?_
  refine ev_cv rfl rfl rfl ⟨Nat.le_of_ble_eq_true rfl, Nat.le_of_ble_eq_true rfl⟩ (sp_min X _ 144 144 ) ?_
  show Ev X k_X3_copyFrom (61, [some (vr 9), some (vr 47)], [vi (if 144 < 144 then 144 else 144), vi 0, vr 12, vi 0, vr 50]) (MS ((cpF (up2 I 9 4 (I 47 4)) 11 49 8)) ((cpF J 10 48 8)) cc ss) _
  refine ev_eqi (show (if 144 < 144 then 144 else 144) = 144 from rfl) ?_
  show Ev X k_X3_copyFrom (61, [some (vr 9), some (vr 47)], [vi 144, vi 0, vr 12, vi 0, vr 50]) (MS ((cpF (up2 I 9 4 (I 47 4)) 11 49 8)) ((cpF J 10 48 8)) cc ss) _
  refine ev_aci (n := 144) rfl rfl rfl (by decide) (by decide) (by decide) ?_
  show Ev X k_X3_copyFrom (64, [some (vr 9), some (vr 47)], []) (MS ((cpF ((cpF (up2 I 9 4 (I 47 4)) 11 49 8)) 12 50 144)) ((cpF J 10 48 8)) cc ss) _
  refine ev_r rfl rfl rfl ?_
  exact ⟨rfl, rfl⟩
theorem sp_cpA_1_39 (X : AX) (I J : Nat → Nat → Int) (cc ss : Nat) : Ev X k_X2_copyFrom (0, [some (vr 1), some (vr 39)], []) (MS I J cc ss) (fun o T => o = .inl none ∧ T = MS (cpA I 1 39) (cpJ J 1 39) cc ss) := by
  refine ev_n (fr' := (8, [some (vr 1), some (vr 39)], [vr 40, vr 2])) (S' := MS I J cc ss) 4 rfl ?_
  refine ev_cv rfl rfl rfl ⟨Nat.le_of_ble_eq_true rfl, Nat.le_of_ble_eq_true rfl⟩ (sp_cpS_1_39 X _ _ _ _) ?_
  show Ev X k_X2_copyFrom (11, [some (vr 1), some (vr 39)], []) (MS ((cpS I 2 40)) J cc ss) _
  refine ev_n (fr' := (19, [some (vr 1), some (vr 39)], [vr 43, vr 5])) (S' := MS ((cpS I 2 40)) J cc ss) 4 rfl ?_
  refine ev_cv rfl rfl rfl ⟨Nat.le_of_ble_eq_true rfl, Nat.le_of_ble_eq_true rfl⟩ (sp_cpR_5_43 X _ _ _ _) ?_
  show Ev X k_X2_copyFrom (22, [some (vr 1), some (vr 39)], []) (MS ((cpR ((cpS I 2 40)) 5 43 288)) ((cpF J 6 44 8)) cc ss) _
  refine ev_n (fr' := (30, [some (vr 1), some (vr 39)], [vr 47, vr 9])) (S' := MS ((cpR ((cpS I 2 40)) 5 43 288)) ((cpF J 6 44 8)) cc ss) 4 rfl ?_
  refine ev_cv rfl rfl rfl ⟨Nat.le_of_ble_eq_true rfl, Nat.le_of_ble_eq_true rfl⟩ (sp_cpR_9_47 X _ _ _ _) ?_
  show Ev X k_X2_copyFrom (33, [some (vr 1), some (vr 39)], []) (MS ((cpR ((cpR ((cpS I 2 40)) 5 43 288)) 9 47 144)) ((cpF ((cpF J 6 44 8)) 10 48 8)) cc ss) _
  refine ev_r rfl rfl rfl ?_
  exact ⟨rfl, rfl⟩
theorem sp_cpS_1_51 (X : AX) (I J : Nat → Nat → Int) (cc ss : Nat) : Ev X k_X5_copyFrom (0, [some (vr 2), some (vr 52)], []) (MS I J cc ss) (fun o T => o = .inl none ∧ T = MS (cpS I 2 52) J cc ss) := by
  refine ev_n (fr' := (5, [some (vr 2), some (vr 52)], [vi (I 52 2), vr 2])) (S' := MS I J cc ss) 3 rfl ?_
  refine ev_n (fr' := (8, [some (vr 2), some (vr 52)], [])) (S' := MS (up2 I 2 2 (I 52 2)) J cc ss) 1 rfl ?_
  refine ev_n (fr' := (19, [some (vr 2), some (vr 52)], [vi 5, vi 0, vr 3, vi 0, vr 53])) (S' := MS (up2 I 2 2 (I 52 2)) J cc ss) 7 rfl ?_
  refine ev_aci (n := 5) rfl rfl rfl (by decide) (by decide) (by decide) ?_
  show Ev X k_X5_copyFrom (22, [some (vr 2), some (vr 52)], []) (MS ((cpF (up2 I 2 2 (I 52 2)) 3 53 5)) J cc ss) _
  refine ev_n (fr' := (33, [some (vr 2), some (vr 52)], [vi 5, vi 0, vr 4, vi 0, vr 54])) (S' := MS ((cpF (up2 I 2 2 (I 52 2)) 3 53 5)) J cc ss) 7 rfl ?_
  refine ev_aci (n := 5) rfl rfl rfl (by decide) (by decide) (by decide) ?_
  show Ev X k_X5_copyFrom (36, [some (vr 2), some (vr 52)], []) (MS ((cpF ((cpF (up2 I 2 2 (I 52 2)) 3 53 5)) 4 54 5)) J cc ss) _
  refine ev_r rfl rfl rfl ?_
  exact ⟨rfl, rfl⟩
theorem sp_cpR_5_55 (X : AX) (I J : Nat → Nat → Int) (cc ss : Nat) : Ev X k_X3_copyFrom (0, [some (vr 5), some (vr 55)], []) (MS I J cc ss) (fun o T => o = .inl none ∧ T = MS (cpR I 5 55 288) (cpF J 6 56 8) cc ss) := by
  refine ev_n (fr' := (5, [some (vr 5), some (vr 55)], [vi (I 55 4), vr 5])) (S' := MS I J cc ss) 3 rfl ?_
  refine ev_n (fr' := (8, [some (vr 5), some (vr 55)], [])) (S' := MS (up2 I 5 4 (I 55 4)) J cc ss) 1 rfl ?_
  refine ev_n (fr' := (20, [some (vr 5), some (vr 55)], [vi 8, vi 0, vr 6, vi 0, vr 56])) (S' := MS (up2 I 5 4 (I 55 4)) J cc ss) 7 rfl ?_
  refine ev_acl (n := 8) rfl rfl rfl (by decide) (by decide) (by decide) ?_
  show Ev X k_X3_copyFrom (23, [some (vr 5), some (vr 55)], []) (MS (up2 I 5 4 (I 55 4)) ((cpF J 6 56 8)) cc ss) _
  refine ev_n (fr' := (35, [some (vr 5), some (vr 55)], [vi 8, vi 0, vr 7, vi 0, vr 57])) (S' := MS (up2 I 5 4 (I 55 4)) ((cpF J 6 56 8)) cc ss) 7 rfl ?_
  refine ev_aci (n := 8) rfl rfl rfl (by decide) (by decide) (by decide) ?_
  show Ev X k_X3_copyFrom (38, [some (vr 5), some (vr 55)], []) (MS ((cpF (up2 I 5 4 (I 55 4)) 7 57 8)) ((cpF J 6 56 8)) cc ss) _
  refine ev_n (fr' := (58, [some (vr 5), some (vr 55)], [vi 288, vi 288, vi 0, vr 8, vi 0, vr 58])) (S' := MS ((cpF (up2 I 5 4 (I 55 4)) 7 57 8)) ((cpF J 6 56 8)) cc ss) 12 rfl ?_
  refine ev_cv rfl rfl rfl ⟨Nat.le_of_ble_eq_true rfl, Nat.le_of_ble_eq_true rfl⟩ (sp_min X _ 288 288 ) ?_
  show Ev X k_X3_copyFrom (61, [some (vr 5), some (vr 55)], [vi (if 288 < 288 then 288 else 288), vi 0, vr 8, vi 0, vr 58]) (MS ((cpF (up2 I 5 4 (I 55 4)) 7 57 8)) ((cpF J 6 56 8)) cc ss) _
  refine ev_eqi (show (if 288 < 288 then 288 else 288) = 288 from rfl) ?_
  show Ev X k_X3_copyFrom (61, [some (vr 5), some (vr 55)], [vi 288, vi 0, vr 8, vi 0, vr 58]) (MS ((cpF (up2 I 5 4 (I 55 4)) 7 57 8)) ((cpF J 6 56 8)) cc ss) _
  refine ev_aci (n := 288) rfl rfl rfl (by decide) (by decide) (by decide) ?_
  show Ev X k_X3_copyFrom (64, [some (vr 5), some (vr 55)], []) (MS ((cpF ((cpF (up2 I 5 4 (I 55 4)) 7 57 8)) 8 58 288)) ((cpF J 6 56 8)) cc ss) _
  refine ev_r rfl rfl rfl ?_
  exact ⟨rfl, rfl⟩
theorem sp_cpR_9_59 (X : AX) (I J : Nat → Nat → Int) (cc ss : Nat) : Ev X k_X3_copyFrom (0, [some (vr 9), some (vr 59)], []) (MS I J cc ss) (fun o T => o = .inl none ∧ T = MS (cpR I 9 59 144) (cpF J 10 60 8) cc ss) := by
  refine ev_n (fr' := (5, [some (vr 9), some (vr 59)], [vi (I 59 4), vr 9])) (S' := MS I J cc ss) 3 rfl ?_
  refine ev_n (fr' := (8, [some (vr 9), some (vr 59)], [])) (S' := MS (up2 I 9 4 (I 59 4)) J cc ss) 1 rfl ?_
  refine ev_n (fr' := (20, [some (vr 9), some (vr 59)], [vi 8, vi 0, vr 10, vi 0, vr 60])) (S' := MS (up2 I 9 4 (I 59 4)) J cc ss) 7 rfl ?_
  refine ev_acl (n := 8) rfl rfl rfl (by decide) (by decide) (by decide) ?_
  show Ev X k_X3_copyFrom (23, [some (vr 9), some (vr 59)], []) (MS (up2 I 9 4 (I 59 4)) ((cpF J 10 60 8)) cc ss) _
  refine ev_n (fr' := (35, [some (vr 9), some (vr 59)], [vi 8, vi 0, vr 11, vi 0, vr 61])) (S' := MS (up2 I 9 4 (I 59 4)) ((cpF J 10 60 8)) cc ss) 7 rfl ?_
  refine ev_aci (n := 8) rfl rfl rfl (by decide) (by decide) (by decide) ?_
  show Ev X k_X3_copyFrom (38, [some (vr 9), some (vr 59)], []) (MS ((cpF (up2 I 9 4 (I 59 4)) 11 61 8)) ((cpF J 10 60 8)) cc ss) _
  refine ev_n (fr' := (58, [some (vr 9), some (vr 59)], [vi 144, vi 144, vi 0, vr 12, vi 0, vr 62])) (S' := MS ((cpF (up2 I 9 4 (I 59 4)) 11 61 8)) ((cpF J 10 60 8)) cc ss) 12 rfl ?_
  refine ev_cv rfl rfl rfl ⟨Nat.le_of_ble_eq_true rfl, Nat.le_of_ble_eq_true rfl⟩ (sp_min X _ 144 144 ) ?_
  show Ev X k_X3_copyFrom (61, [some (vr 9), some (vr 59)], [vi (if 144 < 144 then 144 else 144), vi 0, vr 12, vi 0, vr 62]) (MS ((cpF (up2 I 9 4 (I 59 4)) 11 61 8)) ((cpF J 10 60 8)) cc ss) _
  refine ev_eqi (show (if 144 < 144 then 144 else 144) = 144 from rfl) ?_
  show Ev X k_X3_copyFrom (61, [some (vr 9), some (vr 59)], [vi 144, vi 0, vr 12, vi 0, vr 62]) (MS ((cpF (up2 I 9 4 (I 59 4)) 11 61 8)) ((cpF J 10 60 8)) cc ss) _
  refine ev_aci (n := 144) rfl rfl rfl (by decide) (by decide) (by decide) ?_
  show Ev X k_X3_copyFrom (64, [some (vr 9), some (vr 59)], []) (MS ((cpF ((cpF (up2 I 9 4 (I 59 4)) 11 61 8)) 12 62 144)) ((cpF J 10 60 8)) cc ss) _
  refine ev_r rfl rfl rfl ?_
  exact ⟨rfl, rfl⟩
theorem sp_cpA_1_51 (X : AX) (I J : Nat → Nat → Int) (cc ss : Nat) : Ev X k_X2_copyFrom (0, [some (vr 1), some (vr 51)], []) (MS I J cc ss) (fun o T => o = .inl none ∧ T = MS (cpA I 1 51) (cpJ J 1 51) cc ss) := by
  refine ev_n (fr' := (8, [some (vr 1), some (vr 51)], [vr 52, vr 2])) (S' := MS I J cc ss) 4 rfl ?_
  refine ev_cv rfl rfl rfl ⟨Nat.le_of_ble_eq_true rfl, Nat.le_of_ble_eq_true rfl⟩ (sp_cpS_1_51 X _ _ _ _) ?_
  show Ev X k_X2_copyFrom (11, [some (vr 1), some (vr 51)], []) (MS ((cpS I 2 52)) J cc ss) _
  refine ev_n (fr' := (19, [some (vr 1), some (vr 51)], [vr 55, vr 5])) (S' := MS ((cpS I 2 52)) J cc ss) 4 rfl ?_
  refine ev_cv rfl rfl rfl ⟨Nat.le_of_ble_eq_true rfl, Nat.le_of_ble_eq_true rfl⟩ (sp_cpR_5_55 X _ _ _ _) ?_
  show Ev X k_X2_copyFrom (22, [some (vr 1), some (vr 51)], []) (MS ((cpR ((cpS I 2 52)) 5 55 288)) ((cpF J 6 56 8)) cc ss) _
  refine ev_n (fr' := (30, [some (vr 1), some (vr 51)], [vr 59, vr 9])) (S' := MS ((cpR ((cpS I 2 52)) 5 55 288)) ((cpF J 6 56 8)) cc ss) 4 rfl ?_
  refine ev_cv rfl rfl rfl ⟨Nat.le_of_ble_eq_true rfl, Nat.le_of_ble_eq_true rfl⟩ (sp_cpR_9_59 X _ _ _ _) ?_
  show Ev X k_X2_copyFrom (33, [some (vr 1), some (vr 51)], []) (MS ((cpR ((cpR ((cpS I 2 52)) 5 55 288)) 9 59 144)) ((cpF ((cpF J 6 56 8)) 10 60 8)) cc ss) _
  refine ev_r rfl rfl rfl ?_
  exact ⟨rfl, rfl⟩
theorem sp_cpS_1_63 (X : AX) (I J : Nat → Nat → Int) (cc ss : Nat) : Ev X k_X5_copyFrom (0, [some (vr 2), some (vr 64)], []) (MS I J cc ss) (fun o T => o = .inl none ∧ T = MS (cpS I 2 64) J cc ss) := by
  refine ev_n (fr' := (5, [some (vr 2), some (vr 64)], [vi (I 64 2), vr 2])) (S' := MS I J cc ss) 3 rfl ?_
  refine ev_n (fr' := (8, [some (vr 2), some (vr 64)], [])) (S' := MS (up2 I 2 2 (I 64 2)) J cc ss) 1 rfl ?_
  refine ev_n (fr' := (19, [some (vr 2), some (vr 64)], [vi 5, vi 0, vr 3, vi 0, vr 65])) (S' := MS (up2 I 2 2 (I 64 2)) J cc ss) 7 rfl ?_
  refine ev_aci (n := 5) rfl rfl rfl (by decide) (by decide) (by decide) ?_
  show Ev X k_X5_copyFrom (22, [some (vr 2), some (vr 64)], []) (MS ((cpF (up2 I 2 2 (I 64 2)) 3 65 5)) J cc ss) _
  refine ev_n (fr' := (33, [some (vr 2), some (vr 64)], [vi 5, vi 0, vr 4, vi 0, vr 66])) (S' := MS ((cpF (up2 I 2 2 (I 64 2)) 3 65 5)) J cc ss) 7 rfl ?_
  refine ev_aci (n := 5) rfl rfl rfl (by decide) (by decide) (by decide) ?_
  show Ev X k_X5_copyFrom (36, [some (vr 2), some (vr 64)], []) (MS ((cpF ((cpF (up2 I 2 2 (I 64 2)) 3 65 5)) 4 66 5)) J cc ss) _
  refine ev_r rfl rfl rfl ?_
  exact ⟨rfl, rfl⟩
theorem sp_cpR_5_67 (X : AX) (I J : Nat → Nat → Int) (cc ss : Nat) : Ev X k_X3_copyFrom (0, [some (vr 5), some (vr 67)], []) (MS I J cc ss) (fun o T => o = .inl none ∧ T = MS (cpR I 5 67 288) (cpF J 6 68 8) cc ss) := by
  refine ev_n (fr' := (5, [some (vr 5), some (vr 67)], [vi (I 67 4), vr 5])) (S' := MS I J cc ss) 3 rfl ?_
  refine ev_n (fr' := (8, [some (vr 5), some (vr 67)], [])) (S' := MS (up2 I 5 4 (I 67 4)) J cc ss) 1 rfl ?_
  refine ev_n (fr' := (20, [some (vr 5), some (vr 67)], [vi 8, vi 0, vr 6, vi 0, vr 68])) (S' := MS (up2 I 5 4 (I 67 4)) J cc ss) 7 rfl ?_
  refine ev_acl (n := 8) rfl rfl rfl (by decide) (by decide) (by decide) ?_
  show Ev X k_X3_copyFrom (23, [some (vr 5), some (vr 67)], []) (MS (up2 I 5 4 (I 67 4)) ((cpF J 6 68 8)) cc ss) _
  refine ev_n (fr' := (35, [some (vr 5), some (vr 67)], [vi 8, vi 0, vr 7, vi 0, vr 69])) (S' := MS (up2 I 5 4 (I 67 4)) ((cpF J 6 68 8)) cc ss) 7 rfl ?_
  refine ev_aci (n := 8) rfl rfl rfl (by decide) (by decide) (by decide) ?_
  show Ev X k_X3_copyFrom (38, [some (vr 5), some (vr 67)], []) (MS ((cpF (up2 I 5 4 (I 67 4)) 7 69 8)) ((cpF J 6 68 8)) cc ss) _
  refine ev_n (fr' := (58, [some (vr 5), some (vr 67)], [vi 288, vi 288, vi 0, vr 8, vi 0, vr 70])) (S' := MS ((cpF (up2 I 5 4 (I 67 4)) 7 69 8)) ((cpF J 6 68 8)) cc ss) 12 rfl ?_
  refine ev_cv rfl rfl rfl ⟨Nat.le_of_ble_eq_true rfl, Nat.le_of_ble_eq_true rfl⟩ (sp_min X _ 288 288 ) ?_
  show Ev X k_X3_copyFrom (61, [some (vr 5), some (vr 67)], [vi (if 288 < 288 then 288 else 288), vi 0, vr 8, vi 0, vr 70]) (MS ((cpF (up2 I 5 4 (I 67 4)) 7 69 8)) ((cpF J 6 68 8)) cc ss) _
  refine ev_eqi (show (if 288 < 288 then 288 else 288) = 288 from rfl) ?_
  show Ev X k_X3_copyFrom (61, [some (vr 5), some (vr 67)], [vi 288, vi 0, vr 8, vi 0, vr 70]) (MS ((cpF (up2 I 5 4 (I 67 4)) 7 69 8)) ((cpF J 6 68 8)) cc ss) _
  refine ev_aci (n := 288) rfl rfl rfl (by decide) (by decide) (by decide) ?_
  show Ev X k_X3_copyFrom (64, [some (vr 5), some (vr 67)], []) (MS ((cpF ((cpF (up2 I 5 4 (I 67 4)) 7 69 8)) 8 70 288)) ((cpF J 6 68 8)) cc ss) _
  refine ev_r rfl rfl rfl ?_
  exact ⟨rfl, rfl⟩
theorem sp_cpR_9_71 (X : AX) (I J : Nat → Nat → Int) (cc ss : Nat) : Ev X k_X3_copyFrom (0, [some (vr 9), some (vr 71)], []) (MS I J cc ss) (fun o T => o = .inl none ∧ T = MS (cpR I 9 71 144) (cpF J 10 72 8) cc ss) := by
  refine ev_n (fr' := (5, [some (vr 9), some (vr 71)], [vi (I 71 4), vr 9])) (S' := MS I J cc ss) 3 rfl ?_
  refine ev_n (fr' := (8, [some (vr 9), some (vr 71)], [])) (S' := MS (up2 I 9 4 (I 71 4)) J cc ss) 1 rfl ?_
  refine ev_n (fr' := (20, [some (vr 9), some (vr 71)], [vi 8, vi 0, vr 10, vi 0, vr 72])) (S' := MS (up2 I 9 4 (I 71 4)) J cc ss) 7 rfl ?_
  refine ev_acl (n := 8) rfl rfl rfl (by decide) (by decide) (by decide) ?_
  show Ev X k_X3_copyFrom (23, [some (vr 9), some (vr 71)], []) (MS (up2 I 9 4 (I 71 4)) ((cpF J 10 72 8)) cc ss) _
  refine ev_n (fr' := (35, [some (vr 9), some (vr 71)], [vi 8, vi 0, vr 11, vi 0, vr 73])) (S' := MS (up2 I 9 4 (I 71 4)) ((cpF J 10 72 8)) cc ss) 7 rfl ?_
  refine ev_aci (n := 8) rfl rfl rfl (by decide) (by decide) (by decide) ?_
  show Ev X k_X3_copyFrom (38, [some (vr 9), some (vr 71)], []) (MS ((cpF (up2 I 9 4 (I 71 4)) 11 73 8)) ((cpF J 10 72 8)) cc ss) _
  refine ev_n (fr' := (58, [some (vr 9), some (vr 71)], [vi 144, vi 144, vi 0, vr 12, vi 0, vr 74])) (S' := MS ((cpF (up2 I 9 4 (I 71 4)) 11 73 8)) ((cpF J 10 72 8)) cc ss) 12 rfl ?_
  refine ev_cv rfl rfl rfl ⟨Nat.le_of_ble_eq_true rfl, Nat.le_of_ble_eq_true rfl⟩ (sp_min X _ 144 144 ) ?_
  show Ev X k_X3_copyFrom (61, [some (vr 9), some (vr 71)], [vi (if 144 < 144 then 144 else 144), vi 0, vr 12, vi 0, vr 74]) (MS ((cpF (up2 I 9 4 (I 71 4)) 11 73 8)) ((cpF J 10 72 8)) cc ss) _
  refine ev_eqi (show (if 144 < 144 then 144 else 144) = 144 from rfl) ?_
  show Ev X k_X3_copyFrom (61, [some (vr 9), some (vr 71)], [vi 144, vi 0, vr 12, vi 0, vr 74]) (MS ((cpF (up2 I 9 4 (I 71 4)) 11 73 8)) ((cpF J 10 72 8)) cc ss) _
  refine ev_aci (n := 144) rfl rfl rfl (by decide) (by decide) (by decide) ?_
  show Ev X k_X3_copyFrom (64, [some (vr 9), some (vr 71)], []) (MS ((cpF ((cpF (up2 I 9 4 (I 71 4)) 11 73 8)) 12 74 144)) ((cpF J 10 72 8)) cc ss) _
  refine ev_r rfl rfl rfl ?_
  exact ⟨rfl, rfl⟩
theorem sp_cpA_1_63 (X : AX) (I J : Nat → Nat → Int) (cc ss : Nat) : Ev X k_X2_copyFrom (0, [some (vr 1), some (vr 63)], []) (MS I J cc ss) (fun o T => o = .inl none ∧ T = MS (cpA I 1 63) (cpJ J 1 63) cc ss) := by
  refine ev_n (fr' := (8, [some (vr 1), some (vr 63)], [vr 64, vr 2])) (S' := MS I J cc ss) 4 rfl ?_
  refine ev_cv rfl rfl rfl ⟨Nat.le_of_ble_eq_true rfl, Nat.le_of_ble_eq_true rfl⟩ (sp_cpS_1_63 X _ _ _ _) ?_
  show Ev X k_X2_copyFrom (11, [some (vr 1), some (vr 63)], []) (MS ((cpS I 2 64)) J cc ss) _
  refine ev_n (fr' := (19, [some (vr 1), some (vr 63)], [vr 67, vr 5])) (S' := MS ((cpS I 2 64)) J cc ss) 4 rfl ?_
  refine ev_cv rfl rfl rfl ⟨Nat.le_of_ble_eq_true rfl, Nat.le_of_ble_eq_true rfl⟩ (sp_cpR_5_67 X _ _ _ _) ?_
  show Ev X k_X2_copyFrom (22, [some (vr 1), some (vr 63)], []) (MS ((cpR ((cpS I 2 64)) 5 67 288)) ((cpF J 6 68 8)) cc ss) _
  refine ev_n (fr' := (30, [some (vr 1), some (vr 63)], [vr 71, vr 9])) (S' := MS ((cpR ((cpS I 2 64)) 5 67 288)) ((cpF J 6 68 8)) cc ss) 4 rfl ?_
  refine ev_cv rfl rfl rfl ⟨Nat.le_of_ble_eq_true rfl, Nat.le_of_ble_eq_true rfl⟩ (sp_cpR_9_71 X _ _ _ _) ?_
  show Ev X k_X2_copyFrom (33, [some (vr 1), some (vr 63)], []) (MS ((cpR ((cpR ((cpS I 2 64)) 5 67 288)) 9 71 144)) ((cpF ((cpF J 6 68 8)) 10 72 8)) cc ss) _
  refine ev_r rfl rfl rfl ?_
  exact ⟨rfl, rfl⟩
theorem sp_cpS_1_75 (X : AX) (I J : Nat → Nat → Int) (cc ss : Nat) : Ev X k_X5_copyFrom (0, [some (vr 2), some (vr 76)], []) (MS I J cc ss) (fun o T => o = .inl none ∧ T = MS (cpS I 2 76) J cc ss) := by
  refine ev_n (fr' := (5, [some (vr 2), some (vr 76)], [vi (I 76 2), vr 2])) (S' := MS I J cc ss) 3 rfl ?_
  refine ev_n (fr' := (8, [some (vr 2), some (vr 76)], [])) (S' := MS (up2 I 2 2 (I 76 2)) J cc ss) 1 rfl ?_
  refine ev_n (fr' := (19, [some (vr 2), some (vr 76)], [vi 5, vi 0, vr 3, vi 0, vr 77])) (S' := MS (up2 I 2 2 (I 76 2)) J cc ss) 7 rfl ?_
  refine ev_aci (n := 5) rfl rfl rfl (by decide) (by decide) (by decide) ?_
  show Ev X k_X5_copyFrom (22, [some (vr 2), some (vr 76)], []) (MS ((cpF (up2 I 2 2 (I 76 2)) 3 77 5)) J cc ss) _
  refine ev_n (fr' := (33, [some (vr 2), some (vr 76)], [vi 5, vi 0, vr 4, vi 0, vr 78])) (S' := MS ((cpF (up2 I 2 2 (I 76 2)) 3 77 5)) J cc ss) 7 rfl ?_
  refine ev_aci (n := 5) rfl rfl rfl (by decide) (by decide) (by decide) ?_
  show Ev X k_X5_copyFrom (36, [some (vr 2), some (vr 76)], []) (MS ((cpF ((cpF (up2 I 2 2 (I 76 2)) 3 77 5)) 4 78 5)) J cc ss) _
  refine ev_r rfl rfl rfl ?_
  exact ⟨rfl, rfl⟩
theorem sp_cpR_5_79 (X : AX) (I J : Nat → Nat → Int) (cc ss : Nat) : Ev X k_X3_copyFrom (0, [some (vr 5), some (vr 79)], []) (MS I J cc ss) (fun o T => o = .inl none ∧ T = MS (cpR I 5 79 288) (cpF J 6 80 8) cc ss) := by
  refine ev_n (fr' := (5, [some (vr 5), some (vr 79)], [vi (I 79 4), vr 5])) (S' := MS I J cc ss) 3 rfl ?_
  refine ev_n (fr' := (8, [some (vr 5), some (vr 79)], [])) (S' := MS (up2 I 5 4 (I 79 4)) J cc ss) 1 rfl ?_
  refine ev_n (fr' := (20, [some (vr 5), some (vr 79)], [vi 8, vi 0, vr 6, vi 0, vr 80])) (S' := MS (up2 I 5 4 (I 79 4)) J cc ss) 7 rfl ?_
  refine ev_acl (n := 8) rfl rfl rfl (by decide) (by decide) (by decide) ?_
  show Ev X k_X3_copyFrom (23, [some (vr 5), some (vr 79)], []) (MS (up2 I 5 4 (I 79 4)) ((cpF J 6 80 8)) cc ss) _
  refine ev_n (fr' := (35, [some (vr 5), some (vr 79)], [vi 8, vi 0, vr 7, vi 0, vr 81])) (S' := MS (up2 I 5 4 (I 79 4)) ((cpF J 6 80 8)) cc ss) 7 rfl ?_
  refine ev_aci (n := 8) rfl rfl rfl (by decide) (by decide) (by decide) ?_
  show Ev X k_X3_copyFrom (38, [some (vr 5), some (vr 79)], []) (MS ((cpF (up2 I 5 4 (I 79 4)) 7 81 8)) ((cpF J 6 80 8)) cc ss) _
  refine ev_n (fr' := (58, [some (vr 5), some (vr 79)], [vi 288, vi 288, vi 0, vr 8, vi 0, vr 82])) (S' := MS ((cpF (up2 I 5 4 (I 79 4)) 7 81 8)) ((cpF J 6 80 8)) cc ss) 12 rfl ?_
  refine ev_cv rfl rfl rfl ⟨Nat.le_of_ble_eq_true rfl, Nat.le_of_ble_eq_true rfl⟩ (sp_min X _ 288 288 ) ?_
  show Ev X k_X3_copyFrom (61, [some (vr 5), some (vr 79)], [vi (if 288 < 288 then 288 else 288), vi 0, vr 8, vi 0, vr 82]) (MS ((cpF (up2 I 5 4 (I 79 4)) 7 81 8)) ((cpF J 6 80 8)) cc ss) _
  refine ev_eqi (show (if 288 < 288 then 288 else 288) = 288 from rfl) ?_
  show Ev X k_X3_copyFrom (61, [some (vr 5), some (vr 79)], [vi 288, vi 0, vr 8, vi 0, vr 82]) (MS ((cpF (up2 I 5 4 (I 79 4)) 7 81 8)) ((cpF J 6 80 8)) cc ss) _
  refine ev_aci (n := 288) rfl rfl rfl (by decide) (by decide) (by decide) ?_
  show Ev X k_X3_copyFrom (64, [some (vr 5), some (vr 79)], []) (MS ((cpF ((cpF (up2 I 5 4 (I 79 4)) 7 81 8)) 8 82 288)) ((cpF J 6 80 8)) cc ss) _
  refine ev_r rfl rfl rfl ?_
  exact ⟨rfl, rfl⟩
theorem sp_cpR_9_83 (X : AX) (I J : Nat → Nat → Int) (cc ss : Nat) : Ev X k_X3_copyFrom (0, [some (vr 9), some (vr 83)], []) (MS I J cc ss) (fun o T => o = .inl none ∧ T = MS (cpR I 9 83 144) (cpF J 10 84 8) cc ss) := by
  refine ev_n (fr' := (5, [some (vr 9), some (vr 83)], [vi (I 83 4), vr 9])) (S' := MS I J cc ss) 3 rfl ?_
  refine ev_n (fr' := (8, [some (vr 9), some (vr 83)], [])) (S' := MS (up2 I 9 4 (I 83 4)) J cc ss) 1 rfl ?_
  refine ev_n (fr' := (20, [some (vr 9), some (vr 83)], [vi 8, vi 0, vr 10, vi 0, vr 84])) (S' := MS (up2 I 9 4 (I 83 4)) J cc ss) 7 rfl ?_
  refine ev_acl (n := 8) rfl rfl rfl (by decide) (by decide) (by decide) ?_
  show Ev X k_X3_copyFrom (23, [some (vr 9), some (vr 83)], []) (MS (up2 I 9 4 (I 83 4)) ((cpF J 10 84 8)) cc ss) _
  refine ev_n (fr' := (35, [some (vr 9), some (vr 83)], [vi 8, vi 0, vr 11, vi 0, vr 85])) (S' := MS (up2 I 9 4 (I 83 4)) ((cpF J 10 84 8)) cc ss) 7 rfl ?_
  refine ev_aci (n := 8) rfl rfl rfl (by decide) (by decide) (by decide) ?_
  show Ev X k_X3_copyFrom (38, [some (vr 9), some (vr 83)], []) (MS ((cpF (up2 I 9 4 (I 83 4)) 11 85 8)) ((cpF J 10 84 8)) cc ss) _
  refine ev_n (fr' := (58, [some (vr 9), some (vr 83)], [vi 144, vi 144, vi 0, vr 12, vi 0, vr 86])) (S' := MS ((cpF (up2 I 9 4 (I 83 4)) 11 85 8)) ((cpF J 10 84 8)) cc ss) 12 rfl ?_
  refine ev_cv rfl rfl rfl ⟨Nat.le_of_ble_eq_true rfl, Nat.le_of_ble_eq_true rfl⟩ (sp_min X _ 144 144 ) ?_
  show Ev X k_X3_copyFrom (61, [some (vr 9), some (vr 83)], [vi (if 144 < 144 then 144 else 144), vi 0, vr 12, vi 0, vr 86]) (MS ((cpF (up2 I 9 4 (I 83 4)) 11 85 8)) ((cpF J 10 84 8)) cc ss) _
  refine ev_eqi (show (if 144 < 144 then 144 else 144) = 144 from rfl) ?_
  show Ev X k_X3_copyFrom (61, [some (vr 9), some (vr 83)], [vi 144, vi 0, vr 12, vi 0, vr 86]) (MS ((cpF (up2 I 9 4 (I 83 4)) 11 85 8)) ((cpF J 10 84 8)) cc ss) _
  refine ev_aci (n := 144) rfl rfl rfl (by decide) (by decide) (by decide) ?_
  show Ev X k_X3_copyFrom (64, [some (vr 9), some (vr 83)], []) (MS ((cpF ((cpF (up2 I 9 4 (I 83 4)) 11 85 8)) 12 86 144)) ((cpF J 10 84 8)) cc ss) _
  refine ev_r rfl rfl rfl ?_
  exact ⟨rfl, rfl⟩
theorem sp_cpA_1_75 (X : AX) (I J : Nat → Nat → Int) (cc ss : Nat) : Ev X k_X2_copyFrom (0, [some (vr 1), some (vr 75)], []) (MS I J cc ss) (fun o T => o = .inl none ∧ T = MS (cpA I 1 75) (cpJ J 1 75) cc ss) := by
  refine ev_n (fr' := (8, [some (vr 1), some (vr 75)], [vr 76, vr 2])) (S' := MS I J cc ss) 4 rfl ?_
  refine ev_cv rfl rfl rfl ⟨Nat.le_of_ble_eq_true rfl, Nat.le_of_ble_eq_true rfl⟩ (sp_cpS_1_75 X _ _ _ _) ?_
  show Ev X k_X2_copyFrom (11, [some (vr 1), some (vr 75)], []) (MS ((cpS I 2 76)) J cc ss) _
  refine ev_n (fr' := (19, [some (vr 1), some (vr 75)], [vr 79, vr 5])) (S' := MS ((cpS I 2 76)) J cc ss) 4 rfl ?_
  refine ev_cv rfl rfl rfl ⟨Nat.le_of_ble_eq_true rfl, Nat.le_of_ble_eq_true rfl⟩ (sp_cpR_5_79 X _ _ _ _) ?_
  show Ev X k_X2_copyFrom (22, [some (vr 1), some (vr 75)], []) (MS ((cpR ((cpS I 2 76)) 5 79 288)) ((cpF J 6 80 8)) cc ss) _
  refine ev_n (fr' := (30, [some (vr 1), some (vr 75)], [vr 83, vr 9])) (S' := MS ((cpR ((cpS I 2 76)) 5 79 288)) ((cpF J 6 80 8)) cc ss) 4 rfl ?_
  refine ev_cv rfl rfl rfl ⟨Nat.le_of_ble_eq_true rfl, Nat.le_of_ble_eq_true rfl⟩ (sp_cpR_9_83 X _ _ _ _) ?_
  show Ev X k_X2_copyFrom (33, [some (vr 1), some (vr 75)], []) (MS ((cpR ((cpR ((cpS I 2 76)) 5 79 288)) 9 83 144)) ((cpF ((cpF J 6 80 8)) 10 84 8)) cc ss) _
  refine ev_r rfl rfl rfl ?_
  exact ⟨rfl, rfl⟩
theorem sp_cpS_1_87 (X : AX) (I J : Nat → Nat → Int) (cc ss : Nat) : Ev X k_X5_copyFrom (0, [some (vr 2), some (vr 88)], []) (MS I J cc ss) (fun o T => o = .inl none ∧ T = MS (cpS I 2 88) J cc ss) := by
  refine ev_n (fr' := (5, [some (vr 2), some (vr 88)], [vi (I 88 2), vr 2])) (S' := MS I J cc ss) 3 rfl ?_
  refine ev_n (fr' := (8, [some (vr 2), some (vr 88)], [])) (S' := MS (up2 I 2 2 (I 88 2)) J cc ss) 1 rfl ?_
  refine ev_n (fr' := (19, [some (vr 2), some (vr 88)], [vi 5, vi 0, vr 3, vi 0, vr 89])) (S' := MS (up2 I 2 2 (I 88 2)) J cc ss) 7 rfl ?_
  refine ev_aci (n := 5) rfl rfl rfl (by decide) (by decide) (by decide) ?_
  show Ev X k_X5_copyFrom (22, [some (vr 2), some (vr 88)], []) (MS ((cpF (up2 I 2 2 (I 88 2)) 3 89 5)) J cc ss) _
  refine ev_n (fr' := (33, [some (vr 2), some (vr 88)], [vi 5, vi 0, vr 4, vi 0, vr 90])) (S' := MS ((cpF (up2 I 2 2 (I 88 2)) 3 89 5)) J cc ss) 7 rfl ?_
  refine ev_aci (n := 5) rfl rfl rfl (by decide) (by decide) (by decide) ?_
  show Ev X k_X5_copyFrom (36, [some (vr 2), some (vr 88)], []) (MS ((cpF ((cpF (up2 I 2 2 (I 88 2)) 3 89 5)) 4 90 5)) J cc ss) _
  refine ev_r rfl rfl rfl ?_
  exact ⟨rfl, rfl⟩
theorem sp_cpR_5_91 (X : AX) (I J : Nat → Nat → Int) (cc ss : Nat) : Ev X k_X3_copyFrom (0, [some (vr 5), some (vr 91)], []) (MS I J cc ss) (fun o T => o = .inl none ∧ T = MS (cpR I 5 91 288) (cpF J 6 92 8) cc ss) := by
  refine ev_n (fr' := (5, [some (vr 5), some (vr 91)], [vi (I 91 4), vr 5])) (S' := MS I J cc ss) 3 rfl ?_
  refine ev_n (fr' := (8, [some (vr 5), some (vr 91)], [])) (S' := MS (up2 I 5 4 (I 91 4)) J cc ss) 1 rfl ?_
  refine ev_n (fr' := (20, [some (vr 5), some (vr 91)], [vi 8, vi 0, vr 6, vi 0, vr 92])) (S' := MS (up2 I 5 4 (I 91 4)) J cc ss) 7 rfl ?_
  refine ev_acl (n := 8) rfl rfl rfl (by decide) (by decide) (by decide) ?_
  show Ev X k_X3_copyFrom (23, [some (vr 5), some (vr 91)], []) (MS (up2 I 5 4 (I 91 4)) ((cpF J 6 92 8)) cc ss) _
  refine ev_n (fr' := (35, [some (vr 5), some (vr 91)], [vi 8, vi 0, vr 7, vi 0, vr 93])) (S' := MS (up2 I 5 4 (I 91 4)) ((cpF J 6 92 8)) cc ss) 7 rfl ?_
  refine ev_aci (n := 8) rfl rfl rfl (by decide) (by decide) (by decide) ?_
  show Ev X k_X3_copyFrom (38, [some (vr 5), some (vr 91)], []) (MS ((cpF (up2 I 5 4 (I 91 4)) 7 93 8)) ((cpF J 6 92 8)) cc ss) _
  refine ev_n (fr' := (58, [some (vr 5), some (vr 91)], [vi 288, vi 288, vi 0, vr 8, vi 0, vr 94])) (S' := MS ((cpF (up2 I 5 4 (I 91 4)) 7 93 8)) ((cpF J 6 92 8)) cc ss) 12 rfl ?_
  refine ev_cv rfl rfl rfl ⟨Nat.le_of_ble_eq_true rfl, Nat.le_of_ble_eq_true rfl⟩ (sp_min X _ 288 288 ) ?_
  show Ev X k_X3_copyFrom (61, [some (vr 5), some (vr 91)], [vi (if 288 < 288 then 288 else 288), vi 0, vr 8, vi 0, vr 94]) (MS ((cpF (up2 I 5 4 (I 91 4)) 7 93 8)) ((cpF J 6 92 8)) cc ss) _
  refine ev_eqi (show (if 288 < 288 then 288 else 288) = 288 from rfl) ?_
  show Ev X k_X3_copyFrom (61, [some (vr 5), some (vr 91)], [vi 288, vi 0, vr 8, vi 0, vr 94]) (MS ((cpF (up2 I 5 4 (I 91 4)) 7 93 8)) ((cpF J 6 92 8)) cc ss) _
  refine ev_aci (n := 288) rfl rfl rfl (by decide) (by decide) (by decide) ?_
  show Ev X k_X3_copyFrom (64, [some (vr 5), some (vr 91)], []) (MS ((cpF ((cpF (up2 I 5 4 (I 91 4)) 7 93 8)) 8 94 288)) ((cpF J 6 92 8)) cc ss) _
  refine ev_r rfl rfl rfl ?_
  exact ⟨rfl, rfl⟩
theorem sp_cpR_9_95 (X : AX) (I J : Nat → Nat → Int) (cc ss : Nat) : Ev X k_X3_copyFrom (0, [some (vr 9), some (vr 95)], []) (MS I J cc ss) (fun o T => o = .inl none ∧ T = MS (cpR I 9 95 144) (cpF J 10 96 8) cc ss) := by
  refine ev_n (fr' := (5, [some (vr 9), some (vr 95)], [vi (I 95 4), vr 9])) (S' := MS I J cc ss) 3 rfl ?_
  refine ev_n (fr' := (8, [some (vr 9), some (vr 95)], [])) (S' := MS (up2 I 9 4 (I 95 4)) J cc ss) 1 rfl ?_
  refine ev_n (fr' := (20, [some (vr 9), some (vr 95)], [vi 8, vi 0, vr 10, vi 0, vr 96])) (S' := MS (up2 I 9 4 (I 95 4)) J cc ss) 7 rfl ?_
  refine ev_acl (n := 8) rfl rfl rfl (by decide) (by decide) (by decide) ?_
  show Ev X k_X3_copyFrom (23, [some (vr 9), some (vr 95)], []) (MS (up2 I 9 4 (I 95 4)) ((cpF J 10 96 8)) cc ss) _
  refine ev_n (fr' := (35, [some (vr 9), some (vr 95)], [vi 8, vi 0, vr 11, vi 0, vr 97])) (S' := MS (up2 I 9 4 (I 95 4)) ((cpF J 10 96 8)) cc ss) 7 rfl ?_
  refine ev_aci (n := 8) rfl rfl rfl (by decide) (by decide) (by decide) ?_
  show Ev X k_X3_copyFrom (38, [some (vr 9), some (vr 95)], []) (MS ((cpF (up2 I 9 4 (I 95 4)) 11 97 8)) ((cpF J 10 96 8)) cc ss) _
  refine ev_n (fr' := (58, [some (vr 9), some (vr 95)], [vi 144, vi 144, vi 0, vr 12, vi 0, vr 98])) (S' := MS ((cpF (up2 I 9 4 (I 95 4)) 11 97 8)) ((cpF J 10 96 8)) cc ss) 12 rfl ?_
  refine ev_cv rfl rfl rfl ⟨Nat.le_of_ble_eq_true rfl, Nat.le_of_ble_eq_true rfl⟩ (sp_min X _ 144 144 ) ?_
  show Ev X k_X3_copyFrom (61, [some (vr 9), some (vr 95)], [vi (if 144 < 144 then 144 else 144), vi 0, vr 12, vi 0, vr 98]) (MS ((cpF (up2 I 9 4 (I 95 4)) 11 97 8)) ((cpF J 10 96 8)) cc ss) _
  refine ev_eqi (show (if 144 < 144 then 144 else 144) = 144 from rfl) ?_
  show Ev X k_X3_copyFrom (61, [some (vr 9), some (vr 95)], [vi 144, vi 0, vr 12, vi 0, vr 98]) (MS ((cpF (up2 I 9 4 (I 95 4)) 11 97 8)) ((cpF J 10 96 8)) cc ss) _
  refine ev_aci (n := 144) rfl rfl rfl (by decide) (by decide) (by decide) ?_
  show Ev X k_X3_copyFrom (64, [some (vr 9), some (vr 95)], []) (MS ((cpF ((cpF (up2 I 9 4 (I 95 4)) 11 97 8)) 12 98 144)) ((cpF J 10 96 8)) cc ss) _
  refine ev_r rfl rfl rfl ?_
  exact ⟨rfl, rfl⟩
theorem sp_cpA_1_87 (X : AX) (I J : Nat → Nat → Int) (cc ss : Nat) : Ev X k_X2_copyFrom (0, [some (vr 1), some (vr 87)], []) (MS I J cc ss) (fun o T => o = .inl none ∧ T = MS (cpA I 1 87) (cpJ J 1 87) cc ss) := by
  refine ev_n (fr' := (8, [some (vr 1), some (vr 87)], [vr 88, vr 2])) (S' := MS I J cc ss) 4 rfl ?_
  refine ev_cv rfl rfl rfl ⟨Nat.le_of_ble_eq_true rfl, Nat.le_of_ble_eq_true rfl⟩ (sp_cpS_1_87 X _ _ _ _) ?_
  show Ev X k_X2_copyFrom (11, [some (vr 1), some (vr 87)], []) (MS ((cpS I 2 88)) J cc ss) _
  refine ev_n (fr' := (19, [some (vr 1), some (vr 87)], [vr 91, vr 5])) (S' := MS ((cpS I 2 88)) J cc ss) 4 rfl ?_
  refine ev_cv rfl rfl rfl ⟨Nat.le_of_ble_eq_true rfl, Nat.le_of_ble_eq_true rfl⟩ (sp_cpR_5_91 X _ _ _ _) ?_
  show Ev X k_X2_copyFrom (22, [some (vr 1), some (vr 87)], []) (MS ((cpR ((cpS I 2 88)) 5 91 288)) ((cpF J 6 92 8)) cc ss) _
  refine ev_n (fr' := (30, [some (vr 1), some (vr 87)], [vr 95, vr 9])) (S' := MS ((cpR ((cpS I 2 88)) 5 91 288)) ((cpF J 6 92 8)) cc ss) 4 rfl ?_
  refine ev_cv rfl rfl rfl ⟨Nat.le_of_ble_eq_true rfl, Nat.le_of_ble_eq_true rfl⟩ (sp_cpR_9_95 X _ _ _ _) ?_
  show Ev X k_X2_copyFrom (33, [some (vr 1), some (vr 87)], []) (MS ((cpR ((cpR ((cpS I 2 88)) 5 91 288)) 9 95 144)) ((cpF ((cpF J 6 92 8)) 10 96 8)) cc ss) _
  refine ev_r rfl rfl rfl ?_
  exact ⟨rfl, rfl⟩
theorem sp_cpS_1_99 (X : AX) (I J : Nat → Nat → Int) (cc ss : Nat) : Ev X k_X5_copyFrom (0, [some (vr 2), some (vr 100)], []) (MS I J cc ss) (fun o T => o = .inl none ∧ T = MS (cpS I 2 100) J cc ss) := by
  refine ev_n (fr' := (5, [some (vr 2), some (vr 100)], [vi (I 100 2), vr 2])) (S' := MS I J cc ss) 3 rfl ?_
  refine ev_n (fr' := (8, [some (vr 2), some (vr 100)], [])) (S' := MS (up2 I 2 2 (I 100 2)) J cc ss) 1 rfl ?_
  refine ev_n (fr' := (19, [some (vr 2), some (vr 100)], [vi 5, vi 0, vr 3, vi 0, vr 101])) (S' := MS (up2 I 2 2 (I 100 2)) J cc ss) 7 rfl ?_
  refine ev_aci (n := 5) rfl rfl rfl (by decide) (by decide) (by decide) ?_
  show Ev X k_X5_copyFrom (22, [some (vr 2), some (vr 100)], []) (MS ((cpF (up2 I 2 2 (I 100 2)) 3 101 5)) J cc ss) _
  refine ev_n (fr' := (33, [some (vr 2), some (vr 100)], [vi 5, vi 0, vr 4, vi 0, vr 102])) (S' := MS ((cpF (up2 I 2 2 (I 100 2)) 3 101 5)) J cc ss) 7 rfl ?_
  refine ev_aci (n := 5) rfl rfl rfl (by decide) (by decide) (by decide) ?_
  show Ev X k_X5_copyFrom (36, [some (vr 2), some (vr 100)], []) (MS ((cpF ((cpF (up2 I 2 2 (I 100 2)) 3 101 5)) 4 102 5)) J cc ss) _
  refine ev_r rfl rfl rfl ?_
  exact ⟨rfl, rfl⟩
theorem sp_cpR_5_103 (X : AX) (I J : Nat → Nat → Int) (cc ss : Nat) : Ev X k_X3_copyFrom (0, [some (vr 5), some (vr 103)], []) (MS I J cc ss) (fun o T => o = .inl none ∧ T = MS (cpR I 5 103 288) (cpF J 6 104 8) cc ss) := by
  refine ev_n (fr' := (5, [some (vr 5), some (vr 103)], [vi (I 103 4), vr 5])) (S' := MS I J cc ss) 3 rfl ?_
  refine ev_n (fr' := (8, [some (vr 5), some (vr 103)], [])) (S' := MS (up2 I 5 4 (I 103 4)) J cc ss) 1 rfl ?_
  refine ev_n (fr' := (20, [some (vr 5), some (vr 103)], [vi 8, vi 0, vr 6, vi 0, vr 104])) (S' := MS (up2 I 5 4 (I 103 4)) J cc ss) 7 rfl ?_
  refine ev_acl (n := 8) rfl rfl rfl (by decide) (by decide) (by decide) ?_
  show Ev X k_X3_copyFrom (23, [some (vr 5), some (vr 103)], []) (MS (up2 I 5 4 (I 103 4)) ((cpF J 6 104 8)) cc ss) _
  refine ev_n (fr' := (35, [some (vr 5), some (vr 103)], [vi 8, vi 0, vr 7, vi 0, vr 105])) (S' := MS (up2 I 5 4 (I 103 4)) ((cpF J 6 104 8)) cc ss) 7 rfl ?_
  refine ev_aci (n := 8) rfl rfl rfl (by decide) (by decide) (by decide) ?_
  show Ev X k_X3_copyFrom (38, [some (vr 5), some (vr 103)], []) (MS ((cpF (up2 I 5 4 (I 103 4)) 7 105 8)) ((cpF J 6 104 8)) cc ss) _
  refine ev_n (fr' := (58, [some (vr 5), some (vr 103)], [vi 288, vi 288, vi 0, vr 8, vi 0, vr 106])) (S' := MS ((cpF (up2 I 5 4 (I 103 4)) 7 105 8)) ((cpF J 6 104 8)) cc ss) 12 rfl ?_
  refine ev_cv rfl rfl rfl ⟨Nat.le_of_ble_eq_true rfl, Nat.le_of_ble_eq_true rfl⟩ (sp_min X _ 288 288 ) ?_
  show Ev X k_X3_copyFrom (61, [some (vr 5), some (vr 103)], [vi (if 288 < 288 then 288 else 288), vi 0, vr 8, vi 0, vr 106]) (MS ((cpF (up2 I 5 4 (I 103 4)) 7 105 8)) ((cpF J 6 104 8)) cc ss) _
  refine ev_eqi (show (if 288 < 288 then 288 else 288) = 288 from rfl) ?_
  show Ev X k_X3_copyFrom (61, [some (vr 5), some (vr 103)], [vi 288, vi 0, vr 8, vi 0, vr 106]) (MS ((cpF (up2 I 5 4 (I 103 4)) 7 105 8)) ((cpF J 6 104 8)) cc ss) _
  refine ev_aci (n := 288) rfl rfl rfl (by decide) (by decide) (by decide) ?_
  show Ev X k_X3_copyFrom (64, [some (vr 5), some (vr 103)], []) (MS ((cpF ((cpF (up2 I 5 4 (I 103 4)) 7 105 8)) 8 106 288)) ((cpF J 6 104 8)) cc ss) _
  refine ev_r rfl rfl rfl ?_
  exact ⟨rfl, rfl⟩
theorem sp_cpR_9_107 (X : AX) (I J : Nat → Nat → Int) (cc ss : Nat) : Ev X k_X3_copyFrom (0, [some (vr 9), some (vr 107)], []) (MS I J cc ss) (fun o T => o = .inl none ∧ T = MS (cpR I 9 107 144) (cpF J 10 108 8) cc ss) := by
  refine ev_n (fr' := (5, [some (vr 9), some (vr 107)], [vi (I 107 4), vr 9])) (S' := MS I J cc ss) 3 rfl ?_
  refine ev_n (fr' := (8, [some (vr 9), some (vr 107)], [])) (S' := MS (up2 I 9 4 (I 107 4)) J cc ss) 1 rfl ?_
  refine ev_n (fr' := (20, [some (vr 9), some (vr 107)], [vi 8, vi 0, vr 10, vi 0, vr 108])) (S' := MS (up2 I 9 4 (I 107 4)) J cc ss) 7 rfl ?_
  refine ev_acl (n := 8) rfl rfl rfl (by decide) (by decide) (by decide) ?_
  show Ev X k_X3_copyFrom (23, [some (vr 9), some (vr 107)], []) (MS (up2 I 9 4 (I 107 4)) ((cpF J 10 108 8)) cc ss) _
  refine ev_n (fr' := (35, [some (vr 9), some (vr 107)], [vi 8, vi 0, vr 11, vi 0, vr 109])) (S' := MS (up2 I 9 4 (I 107 4)) ((cpF J 10 108 8)) cc ss) 7 rfl ?_
  refine ev_aci (n := 8) rfl rfl rfl (by decide) (by decide) (by decide) ?_
  show Ev X k_X3_copyFrom (38, [some (vr 9), some (vr 107)], []) (MS ((cpF (up2 I 9 4 (I 107 4)) 11 109 8)) ((cpF J 10 108 8)) cc ss) _
  refine ev_n (fr' := (58, [some (vr 9), some (vr 107)], [vi 144, vi 144, vi 0, vr 12, vi 0, vr 110])) (S' := MS ((cpF (up2 I 9 4 (I 107 4)) 11 109 8)) ((cpF J 10 108 8)) cc ss) 12 rfl ?_
  refine ev_cv rfl rfl rfl ⟨Nat.le_of_ble_eq_true rfl, Nat.le_of_ble_eq_true rfl⟩ (sp_min X _ 144 144 ) ?_
  show Ev X k_X3_copyFrom (61, [some (vr 9), some (vr 107)], [vi (if 144 < 144 then 144 else 144), vi 0, vr 12, vi 0, vr 110]) (MS ((cpF (up2 I 9 4 (I 107 4)) 11 109 8)) ((cpF J 10 108 8)) cc ss) _
  refine ev_eqi (show (if 144 < 144 then 144 else 144) = 144 from rfl) ?_
  show Ev X k_X3_copyFrom (61, [some (vr 9), some (vr 107)], [vi 144, vi 0, vr 12, vi 0, vr 110]) (MS ((cpF (up2 I 9 4 (I 107 4)) 11 109 8)) ((cpF J 10 108 8)) cc ss) _
  refine ev_aci (n := 144) rfl rfl rfl (by decide) (by decide) (by decide) ?_
  show Ev X k_X3_copyFrom (64, [some (vr 9), some (vr 107)], []) (MS ((cpF ((cpF (up2 I 9 4 (I 107 4)) 11 109 8)) 12 110 144)) ((cpF J 10 108 8)) cc ss) _
  refine ev_r rfl rfl rfl ?_
  exact ⟨rfl, rfl⟩
theorem sp_cpA_1_99 (X : AX) (I J : Nat → Nat → Int) (cc ss : Nat) : Ev X k_X2_copyFrom (0, [some (vr 1), some (vr 99)], []) (MS I J cc ss) (fun o T => o = .inl none ∧ T = MS (cpA I 1 99) (cpJ J 1 99) cc ss) := by
  refine ev_n (fr' := (8, [some (vr 1), some (vr 99)], [vr 100, vr 2])) (S' := MS I J cc ss) 4 rfl ?_
  refine ev_cv rfl rfl rfl ⟨Nat.le_of_ble_eq_true rfl, Nat.le_of_ble_eq_true rfl⟩ (sp_cpS_1_99 X _ _ _ _) ?_
  show Ev X k_X2_copyFrom (11, [some (vr 1), some (vr 99)], []) (MS ((cpS I 2 100)) J cc ss) _
  refine ev_n (fr' := (19, [some (vr 1), some (vr 99)], [vr 103, vr 5])) (S' := MS ((cpS I 2 100)) J cc ss) 4 rfl ?_
  refine ev_cv rfl rfl rfl ⟨Nat.le_of_ble_eq_true rfl, Nat.le_of_ble_eq_true rfl⟩ (sp_cpR_5_103 X _ _ _ _) ?_
  show Ev X k_X2_copyFrom (22, [some (vr 1), some (vr 99)], []) (MS ((cpR ((cpS I 2 100)) 5 103 288)) ((cpF J 6 104 8)) cc ss) _
  refine ev_n (fr' := (30, [some (vr 1), some (vr 99)], [vr 107, vr 9])) (S' := MS ((cpR ((cpS I 2 100)) 5 103 288)) ((cpF J 6 104 8)) cc ss) 4 rfl ?_
  refine ev_cv rfl rfl rfl ⟨Nat.le_of_ble_eq_true rfl, Nat.le_of_ble_eq_true rfl⟩ (sp_cpR_9_107 X _ _ _ _) ?_
  show Ev X k_X2_copyFrom (33, [some (vr 1), some (vr 99)], []) (MS ((cpR ((cpR ((cpS I 2 100)) 5 103 288)) 9 107 144)) ((cpF ((cpF J 6 104 8)) 10 108 8)) cc ss) _
  refine ev_r rfl rfl rfl ?_
  exact ⟨rfl, rfl⟩
theorem sp_cpS_1_114 (X : AX) (I J : Nat → Nat → Int) (cc ss : Nat) : Ev X k_X5_copyFrom (0, [some (vr 2), some (vr 115)], []) (MS I J cc ss) (fun o T => o = .inl none ∧ T = MS (cpS I 2 115) J cc ss) := by
  refine ev_n (fr' := (5, [some (vr 2), some (vr 115)], [vi (I 115 2), vr 2])) (S' := MS I J cc ss) 3 rfl ?_
  refine ev_n (fr' := (8, [some (vr 2), some (vr 115)], [])) (S' := MS (up2 I 2 2 (I 115 2)) J cc ss) 1 rfl ?_
  refine ev_n (fr' := (19, [some (vr 2), some (vr 115)], [vi 5, vi 0, vr 3, vi 0, vr 116])) (S' := MS (up2 I 2 2 (I 115 2)) J cc ss) 7 rfl ?_
  refine ev_aci (n := 5) rfl rfl rfl (by decide) (by decide) (by decide) ?_
  show Ev X k_X5_copyFrom (22, [some (vr 2), some (vr 115)], []) (MS ((cpF (up2 I 2 2 (I 115 2)) 3 116 5)) J cc ss) _
  refine ev_n (fr' := (33, [some (vr 2), some (vr 115)], [vi 5, vi 0, vr 4, vi 0, vr 117])) (S' := MS ((cpF (up2 I 2 2 (I 115 2)) 3 116 5)) J cc ss) 7 rfl ?_
  refine ev_aci (n := 5) rfl rfl rfl (by decide) (by decide) (by decide) ?_
  show Ev X k_X5_copyFrom (36, [some (vr 2), some (vr 115)], []) (MS ((cpF ((cpF (up2 I 2 2 (I 115 2)) 3 116 5)) 4 117 5)) J cc ss) _
  refine ev_r rfl rfl rfl ?_
  exact ⟨rfl, rfl⟩
theorem sp_cpR_5_118 (X : AX) (I J : Nat → Nat → Int) (cc ss : Nat) : Ev X k_X3_copyFrom (0, [some (vr 5), some (vr 118)], []) (MS I J cc ss) (fun o T => o = .inl none ∧ T = MS (cpR I 5 118 288) (cpF J 6 119 8) cc ss) := by
  refine ev_n (fr' := (5, [some (vr 5), some (vr 118)], [vi (I 118 4), vr 5])) (S' := MS I J cc ss) 3 rfl ?_
  refine ev_n (fr' := (8, [some (vr 5), some (vr 118)], [])) (S' := MS (up2 I 5 4 (I 118 4)) J cc ss) 1 rfl ?_
  refine ev_n (fr' := (20, [some (vr 5), some (vr 118)], [vi 8, vi 0, vr 6, vi 0, vr 119])) (S' := MS (up2 I 5 4 (I 118 4)) J cc ss) 7 rfl ?_
  refine ev_acl (n := 8) rfl rfl rfl (by decide) (by decide) (by decide) ?_
  show Ev X k_X3_copyFrom (23, [some (vr 5), some (vr 118)], []) (MS (up2 I 5 4 (I 118 4)) ((cpF J 6 119 8)) cc ss) _
  refine ev_n (fr' := (35, [some (vr 5), some (vr 118)], [vi 8, vi 0, vr 7, vi 0, vr 120])) (S' := MS (up2 I 5 4 (I 118 4)) ((cpF J 6 119 8)) cc ss) 7 rfl ?_
  refine ev_aci (n := 8) rfl rfl rfl (by decide) (by decide) (by decide) ?_
  show Ev X k_X3_copyFrom (38, [some (vr 5), some (vr 118)], []) (MS ((cpF (up2 I 5 4 (I 118 4)) 7 120 8)) ((cpF J 6 119 8)) cc ss) _
  refine ev_n (fr' := (58, [some (vr 5), some (vr 118)], [vi 288, vi 288, vi 0, vr 8, vi 0, vr 121])) (S' := MS ((cpF (up2 I 5 4 (I 118 4)) 7 120 8)) ((cpF J 6 119 8)) cc ss) 12 rfl ?_
  refine ev_cv rfl rfl rfl ⟨Nat.le_of_ble_eq_true rfl, Nat.le_of_ble_eq_true rfl⟩ (sp_min X _ 288 288 ) ?_
  show Ev X k_X3_copyFrom (61, [some (vr 5), some (vr 118)], [vi (if 288 < 288 then 288 else 288), vi 0, vr 8, vi 0, vr 121]) (MS ((cpF (up2 I 5 4 (I 118 4)) 7 120 8)) ((cpF J 6 119 8)) cc ss) _
  refine ev_eqi (show (if 288 < 288 then 288 else 288) = 288 from rfl) ?_
  show Ev X k_X3_copyFrom (61, [some (vr 5), some (vr 118)], [vi 288, vi 0, vr 8, vi 0, vr 121]) (MS ((cpF (up2 I 5 4 (I 118 4)) 7 120 8)) ((cpF J 6 119 8)) cc ss) _
  refine ev_aci (n := 288) rfl rfl rfl (by decide) (by decide) (by decide) ?_
  show Ev X k_X3_copyFrom (64, [some (vr 5), some (vr 118)], []) (MS ((cpF ((cpF (up2 I 5 4 (I 118 4)) 7 120 8)) 8 121 288)) ((cpF J 6 119 8)) cc ss) _
  refine ev_r rfl rfl rfl ?_
  exact ⟨rfl, rfl⟩
theorem sp_cpR_9_122 (X : AX) (I J : Nat → Nat → Int) (cc ss : Nat) : Ev X k_X3_copyFrom (0, [some (vr 9), some (vr 122)], []) (MS I J cc ss) (fun o T => o = .inl none ∧ T = MS (cpR I 9 122 144) (cpF J 10 123 8) cc ss) := by
  refine ev_n (fr' := (5, [some (vr 9), some (vr 122)], [vi (I 122 4), vr 9])) (S' := MS I J cc ss) 3 rfl ?_
  refine ev_n (fr' := (8, [some (vr 9), some (vr 122)], [])) (S' := MS (up2 I 9 4 (I 122 4)) J cc ss) 1 rfl ?_
  refine ev_n (fr' := (20, [some (vr 9), some (vr 122)], [vi 8, vi 0, vr 10, vi 0, vr 123])) (S' := MS (up2 I 9 4 (I 122 4)) J cc ss) 7 rfl ?_
  refine ev_acl (n := 8) rfl rfl rfl (by decide) (by decide) (by decide) ?_
  show Ev X k_X3_copyFrom (23, [some (vr 9), some (vr 122)], []) (MS (up2 I 9 4 (I 122 4)) ((cpF J 10 123 8)) cc ss) _
  refine ev_n (fr' := (35, [some (vr 9), some (vr 122)], [vi 8, vi 0, vr 11, vi 0, vr 124])) (S' := MS (up2 I 9 4 (I 122 4)) ((cpF J 10 123 8)) cc ss) 7 rfl ?_
  refine ev_aci (n := 8) rfl rfl rfl (by decide) (by decide) (by decide) ?_
  show Ev X k_X3_copyFrom (38, [some (vr 9), some (vr 122)], []) (MS ((cpF (up2 I 9 4 (I 122 4)) 11 124 8)) ((cpF J 10 123 8)) cc ss) _
  refine ev_n (fr' := (58, [some (vr 9), some (vr 122)], [vi 144, vi 144, vi 0, vr 12, vi 0, vr 125])) (S' := MS ((cpF (up2 I 9 4 (I 122 4)) 11 124 8)) ((cpF J 10 123 8)) cc ss) 12 rfl ?_
  refine ev_cv rfl rfl rfl ⟨Nat.le_of_ble_eq_true rfl, Nat.le_of_ble_eq_true rfl⟩ (sp_min X _ 144 144 ) ?_
  show Ev X k_X3_copyFrom (61, [some (vr 9), some (vr 122)], [vi (if 144 < 144 then 144 else 144), vi 0, vr 12, vi 0, vr 125]) (MS ((cpF (up2 I 9 4 (I 122 4)) 11 124 8)) ((cpF J 10 123 8)) cc ss) _
  refine ev_eqi (show (if 144 < 144 then 144 else 144) = 144 from rfl) ?_
  show Ev X k_X3_copyFrom (61, [some (vr 9), some (vr 122)], [vi 144, vi 0, vr 12, vi 0, vr 125]) (MS ((cpF (up2 I 9 4 (I 122 4)) 11 124 8)) ((cpF J 10 123 8)) cc ss) _
  refine ev_aci (n := 144) rfl rfl rfl (by decide) (by decide) (by decide) ?_
  show Ev X k_X3_copyFrom (64, [some (vr 9), some (vr 122)], []) (MS ((cpF ((cpF (up2 I 9 4 (I 122 4)) 11 124 8)) 12 125 144)) ((cpF J 10 123 8)) cc ss) _
  refine ev_r rfl rfl rfl ?_
  exact ⟨rfl, rfl⟩
theorem sp_cpA_1_114 (X : AX) (I J : Nat → Nat → Int) (cc ss : Nat) : Ev X k_X2_copyFrom (0, [some (vr 1), some (vr 114)], []) (MS I J cc ss) (fun o T => o = .inl none ∧ T = MS (cpA I 1 114) (cpJ J 1 114) cc ss) := by
  refine ev_n (fr' := (8, [some (vr 1), some (vr 114)], [vr 115, vr 2])) (S' := MS I J cc ss) 4 rfl ?_
  refine ev_cv rfl rfl rfl ⟨Nat.le_of_ble_eq_true rfl, Nat.le_of_ble_eq_true rfl⟩ (sp_cpS_1_114 X _ _ _ _) ?_
  show Ev X k_X2_copyFrom (11, [some (vr 1), some (vr 114)], []) (MS ((cpS I 2 115)) J cc ss) _
  refine ev_n (fr' := (19, [some (vr 1), some (vr 114)], [vr 118, vr 5])) (S' := MS ((cpS I 2 115)) J cc ss) 4 rfl ?_
  refine ev_cv rfl rfl rfl ⟨Nat.le_of_ble_eq_true rfl, Nat.le_of_ble_eq_true rfl⟩ (sp_cpR_5_118 X _ _ _ _) ?_
  show Ev X k_X2_copyFrom (22, [some (vr 1), some (vr 114)], []) (MS ((cpR ((cpS I 2 115)) 5 118 288)) ((cpF J 6 119 8)) cc ss) _
  refine ev_n (fr' := (30, [some (vr 1), some (vr 114)], [vr 122, vr 9])) (S' := MS ((cpR ((cpS I 2 115)) 5 118 288)) ((cpF J 6 119 8)) cc ss) 4 rfl ?_
  refine ev_cv rfl rfl rfl ⟨Nat.le_of_ble_eq_true rfl, Nat.le_of_ble_eq_true rfl⟩ (sp_cpR_9_122 X _ _ _ _) ?_
  show Ev X k_X2_copyFrom (33, [some (vr 1), some (vr 114)], []) (MS ((cpR ((cpR ((cpS I 2 115)) 5 118 288)) 9 122 144)) ((cpF ((cpF J 6 119 8)) 10 123 8)) cc ss) _
  refine ev_r rfl rfl rfl ?_
  exact ⟨rfl, rfl⟩
