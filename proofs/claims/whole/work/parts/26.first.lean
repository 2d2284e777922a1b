/-! FIRST WALKS (printed by gen/first.py). -/
theorem rt_1 {z : Int} {len a b pc : Nat} {L : ALs} {S : AS} (h : z = 0 ∨ z = 1) : ctl .ireturn len (1, a, b) (pc, L, [vi z]) S = some (.inr (.inr (.inl (some (vi z)), S))) := by
  simp only [ctl]
  rw [if_pos (by omega)]
theorem rt_2 {z : Int} {len a b pc : Nat} {L : ALs} {S : AS} (h : 0 ≤ z ∧ z ≤ 127) : ctl .ireturn len (2, a, b) (pc, L, [vi z]) S = some (.inr (.inr (.inl (some (vi z)), S))) := by
  simp only [ctl]
  exact if_pos (Or.inr (Or.inr (Or.inr ⟨trivial, h⟩)))
theorem sp_isIn (X : AX) (I J : Nat → Nat → Int) (c s : Nat) (v a b : Int)  : Ev X k_X9_isIn (0, [some (vl v), none, some (vl a), none, some (vl b), none], []) (MS I J c s) (fun o T => o = .inl (some (vi (if a ≤ v ∧ v ≤ b then 1 else 0))) ∧ T = MS I J c s) := by
  refine ev_n (fr' := (2, [some (vl v), none, some (vl a), none, some (vl b), none], [vl a, vl v])) (S' := MS I J c s) 2 rfl ?_
  refine ev_lc (c := .lt) (off := 14) rfl rfl (by decide) (fun (g1 : v < a) => ?_) (fun (g1 : ¬ (v < a)) => ?_)
  · show Ev X k_X9_isIn (17, [some (vl v), none, some (vl a), none, some (vl b), none], []) (MS I J c s) _
    refine ev_n (fr' := (18, [some (vl v), none, some (vl a), none, some (vl b), none], [vi 0])) (S' := MS I J c s) 1 rfl ?_
    refine ev_r rfl rfl rfl ?_
    first | exact ⟨rfl, rfl⟩ | exact ⟨by rw [if_pos (by omega)], rfl⟩ | exact ⟨by rw [if_neg (by omega)], rfl⟩
  · show Ev X k_X9_isIn (6, [some (vl v), none, some (vl a), none, some (vl b), none], []) (MS I J c s) _
    refine ev_n (fr' := (9, [some (vl v), none, some (vl a), none, some (vl b), none], [vl b, vl v])) (S' := MS I J c s) 2 rfl ?_
    refine ev_lc (c := .gt) (off := 7) rfl rfl (by decide) (fun (g2 : b < v) => ?_) (fun (g2 : ¬ (b < v)) => ?_)
    · show Ev X k_X9_isIn (17, [some (vl v), none, some (vl a), none, some (vl b), none], []) (MS I J c s) _
      refine ev_n (fr' := (18, [some (vl v), none, some (vl a), none, some (vl b), none], [vi 0])) (S' := MS I J c s) 1 rfl ?_
      refine ev_r rfl rfl rfl ?_
      first | exact ⟨rfl, rfl⟩ | exact ⟨by rw [if_pos (by omega)], rfl⟩ | exact ⟨by rw [if_neg (by omega)], rfl⟩
    · show Ev X k_X9_isIn (13, [some (vl v), none, some (vl a), none, some (vl b), none], []) (MS I J c s) _
      refine ev_n (fr' := (18, [some (vl v), none, some (vl a), none, some (vl b), none], [vi 1])) (S' := MS I J c s) 2 rfl ?_
      refine ev_r rfl rfl rfl ?_
      first | exact ⟨rfl, rfl⟩ | exact ⟨by rw [if_pos (by omega)], rfl⟩ | exact ⟨by rw [if_neg (by omega)], rfl⟩
theorem sp_isSize (X : AX) (I J : Nat → Nat → Int) (c s : Nat) (z : Int) (h : 0 ≤ J 136 0 ∧ J 136 0 ≤ 5) : Ev X k_X9_isSize (0, [some (vr 135), some (vi z)], []) (MS I J c s) (fun o T => o = .inl (some (vi (if 0 ≤ z ∧ z ≤ J 136 0 - 1 then 1 else 0))) ∧ T = MS I J c s) := by
  refine ev_n (fr' := (11, [some (vr 135), some (vi z)], [vl (w64 ((J 136 0) - 1)), vl 0, vl z])) (S' := MS I J c s) 9 rfl ?_
  rw [w64_id (z := (J 136 0) - 1) (by first | omega | exact ⟨by omega, by omega⟩)]
  refine ev_c rfl rfl rfl ⟨Nat.le_of_ble_eq_true rfl, Nat.le_of_ble_eq_true rfl⟩ (sp_isIn X I J c s z 0 ((J 136 0) - 1)) (fun v T q1 => ?_) (fun x T q1 => nomatch q1.1)
  obtain ⟨q1, rfl⟩ := q1; cases q1
  show Ev X k_X9_isSize (14, [some (vr 135), some (vi z)], [vi (if 0 ≤ z ∧ z ≤ (J 136 0) - 1 then 1 else 0)]) (MS I J c s) _
  refine ev_r rfl rfl (rt_1 (by omega)) ?_
  first | exact ⟨rfl, rfl⟩ | exact ⟨by rw [if_pos (by omega)], rfl⟩ | exact ⟨by rw [if_neg (by omega)], rfl⟩
