/-! STATIC METHODS (printed by gen/g28.py) -/
theorem sp_isIn (X : AX) (S : AS) (v : Int) (a : Int) (b : Int) : Ev X k_X9_isIn (0, [some (vl v), none, some (vl a), none, some (vl b), none], []) (S) (fun o T => o = .inl (some (vi (if a ≤ v ∧ v ≤ b then 1 else 0))) ∧ T = S) := by
  refine ev_n (fr' := (2, [some (vl v), none, some (vl a), none, some (vl b), none], [vl a, vl v])) (S' := S) 2 rfl ?_
  refine ev_lc (c := .lt) (off := 14) rfl rfl (by decide) (fun (g1 : v < a) => ?_) (fun (g1 : ¬ (v < a)) => ?_)
  · show Ev X k_X9_isIn (17, [some (vl v), none, some (vl a), none, some (vl b), none], []) (S) _
    refine ev_n (fr' := (18, [some (vl v), none, some (vl a), none, some (vl b), none], [vi 0])) (S' := S) 1 rfl ?_
    refine ev_r rfl rfl rfl ?_
    first | exact ⟨rfl, rfl⟩ | exact ⟨congrArg (fun z => Sum.inl (some (vi z))) (by first | rfl | (rw [if_pos (by omega)]) | (rw [if_neg (by omega)]) | (simp only [*]; done) | omega), rfl⟩
  · show Ev X k_X9_isIn (6, [some (vl v), none, some (vl a), none, some (vl b), none], []) (S) _
    refine ev_n (fr' := (9, [some (vl v), none, some (vl a), none, some (vl b), none], [vl b, vl v])) (S' := S) 2 rfl ?_
    refine ev_lc (c := .gt) (off := 7) rfl rfl (by decide) (fun (g2 : b < v) => ?_) (fun (g2 : ¬ (b < v)) => ?_)
    · show Ev X k_X9_isIn (17, [some (vl v), none, some (vl a), none, some (vl b), none], []) (S) _
      refine ev_n (fr' := (18, [some (vl v), none, some (vl a), none, some (vl b), none], [vi 0])) (S' := S) 1 rfl ?_
      refine ev_r rfl rfl rfl ?_
      first | exact ⟨rfl, rfl⟩ | exact ⟨congrArg (fun z => Sum.inl (some (vi z))) (by first | rfl | (rw [if_pos (by omega)]) | (rw [if_neg (by omega)]) | (simp only [*]; done) | omega), rfl⟩
    · show Ev X k_X9_isIn (13, [some (vl v), none, some (vl a), none, some (vl b), none], []) (S) _
      refine ev_n (fr' := (18, [some (vl v), none, some (vl a), none, some (vl b), none], [vi 1])) (S' := S) 2 rfl ?_
      refine ev_r rfl rfl rfl ?_
      first | exact ⟨rfl, rfl⟩ | exact ⟨congrArg (fun z => Sum.inl (some (vi z))) (by first | rfl | (rw [if_pos (by omega)]) | (rw [if_neg (by omega)]) | (simp only [*]; done) | omega), rfl⟩
theorem sp_within (X : AX) (S : AS) (v : Int) (a : Int) (b : Int) : Ev X k_X8_within (0, [some (vi v), some (vi a), some (vi b)], []) (S) (fun o T => o = .inl (some (vi (if a ≤ v ∧ v ≤ b then 1 else 0))) ∧ T = S) := by
  refine ev_n (fr' := (2, [some (vi v), some (vi a), some (vi b)], [vi a, vi v])) (S' := S) 2 rfl ?_
  refine ev_ic (c := .lt) (off := 12) rfl (by decide) (fun (g1 : v < a) => ?_) (fun (g1 : ¬ (v < a)) => ?_)
  · show Ev X k_X8_within (14, [some (vi v), some (vi a), some (vi b)], []) (S) _
    refine ev_n (fr' := (15, [some (vi v), some (vi a), some (vi b)], [vi 0])) (S' := S) 1 rfl ?_
    refine ev_r rfl rfl rfl ?_
    first | exact ⟨rfl, rfl⟩ | exact ⟨congrArg (fun z => Sum.inl (some (vi z))) (by first | rfl | (rw [if_pos (by omega)]) | (rw [if_neg (by omega)]) | (simp only [*]; done) | omega), rfl⟩
  · show Ev X k_X8_within (5, [some (vi v), some (vi a), some (vi b)], []) (S) _
    refine ev_n (fr' := (7, [some (vi v), some (vi a), some (vi b)], [vi b, vi v])) (S' := S) 2 rfl ?_
    refine ev_ic (c := .gt) (off := 7) rfl (by decide) (fun (g2 : b < v) => ?_) (fun (g2 : ¬ (b < v)) => ?_)
    · show Ev X k_X8_within (14, [some (vi v), some (vi a), some (vi b)], []) (S) _
      refine ev_n (fr' := (15, [some (vi v), some (vi a), some (vi b)], [vi 0])) (S' := S) 1 rfl ?_
      refine ev_r rfl rfl rfl ?_
      first | exact ⟨rfl, rfl⟩ | exact ⟨congrArg (fun z => Sum.inl (some (vi z))) (by first | rfl | (rw [if_pos (by omega)]) | (rw [if_neg (by omega)]) | (simp only [*]; done) | omega), rfl⟩
    · show Ev X k_X8_within (10, [some (vi v), some (vi a), some (vi b)], []) (S) _
      refine ev_n (fr' := (15, [some (vi v), some (vi a), some (vi b)], [vi 1])) (S' := S) 2 rfl ?_
      refine ev_r rfl rfl rfl ?_
      first | exact ⟨rfl, rfl⟩ | exact ⟨congrArg (fun z => Sum.inl (some (vi z))) (by first | rfl | (rw [if_pos (by omega)]) | (rw [if_neg (by omega)]) | (simp only [*]; done) | omega), rfl⟩
theorem sp_max (X : AX) (S : AS) (x : Int) (y : Int) : Ev X k_J9_max_7cf53 (0, [some (vi x), some (vi y)], []) (S) (fun o T => o = .inl (some (vi (if x < y then y else x))) ∧ T = S) := by
  refine ev_n (fr' := (2, [some (vi x), some (vi y)], [vi y, vi x])) (S' := S) 2 rfl ?_
  refine ev_ic (c := .lt) (off := 7) rfl (by decide) (fun (g1 : x < y) => ?_) (fun (g1 : ¬ (x < y)) => ?_)
  · show Ev X k_J9_max_7cf53 (9, [some (vi x), some (vi y)], []) (S) _
    refine ev_n (fr' := (10, [some (vi x), some (vi y)], [vi y])) (S' := S) 1 rfl ?_
    refine ev_r rfl rfl rfl ?_
    first | exact ⟨rfl, rfl⟩ | exact ⟨congrArg (fun z => Sum.inl (some (vi z))) (by first | rfl | (rw [if_pos (by omega)]) | (rw [if_neg (by omega)]) | (simp only [*]; done) | omega), rfl⟩
  · show Ev X k_J9_max_7cf53 (5, [some (vi x), some (vi y)], []) (S) _
    refine ev_n (fr' := (10, [some (vi x), some (vi y)], [vi x])) (S' := S) 2 rfl ?_
    refine ev_r rfl rfl rfl ?_
    first | exact ⟨rfl, rfl⟩ | exact ⟨congrArg (fun z => Sum.inl (some (vi z))) (by first | rfl | (rw [if_pos (by omega)]) | (rw [if_neg (by omega)]) | (simp only [*]; done) | omega), rfl⟩
theorem sp_min (X : AX) (S : AS) (x : Int) (y : Int) : Ev X k_J9_min_7cf53 (0, [some (vi x), some (vi y)], []) (S) (fun o T => o = .inl (some (vi (if y < x then y else x))) ∧ T = S) := by
  refine ev_n (fr' := (2, [some (vi x), some (vi y)], [vi y, vi x])) (S' := S) 2 rfl ?_
  refine ev_ic (c := .gt) (off := 7) rfl (by decide) (fun (g1 : y < x) => ?_) (fun (g1 : ¬ (y < x)) => ?_)
  · show Ev X k_J9_min_7cf53 (9, [some (vi x), some (vi y)], []) (S) _
    refine ev_n (fr' := (10, [some (vi x), some (vi y)], [vi y])) (S' := S) 1 rfl ?_
    refine ev_r rfl rfl rfl ?_
    first | exact ⟨rfl, rfl⟩ | exact ⟨congrArg (fun z => Sum.inl (some (vi z))) (by first | rfl | (rw [if_pos (by omega)]) | (rw [if_neg (by omega)]) | (simp only [*]; done) | omega), rfl⟩
  · show Ev X k_J9_min_7cf53 (5, [some (vi x), some (vi y)], []) (S) _
    refine ev_n (fr' := (10, [some (vi x), some (vi y)], [vi x])) (S' := S) 2 rfl ?_
    refine ev_r rfl rfl rfl ?_
    first | exact ⟨rfl, rfl⟩ | exact ⟨congrArg (fun z => Sum.inl (some (vi z))) (by first | rfl | (rw [if_pos (by omega)]) | (rw [if_neg (by omega)]) | (simp only [*]; done) | omega), rfl⟩
theorem sp_abs (X : AX) (S : AS) (x : Int) (h : -2147483647 ≤ x ∧ x ≤ 2147483647) : Ev X k_J9_abs_0f7a4 (0, [some (vi x)], []) (S) (fun o T => o = .inl (some (vi (if x < 0 then -x else x))) ∧ T = S) := by
  refine ev_n (fr' := (1, [some (vi x)], [vi x])) (S' := S) 1 rfl ?_
  refine ev_if (c := .ge) (off := 8) rfl (by decide) (fun (g1 : 0 ≤ x) => ?_) (fun (g1 : ¬ (0 ≤ x)) => ?_)
  · show Ev X k_J9_abs_0f7a4 (9, [some (vi x)], []) (S) _
    refine ev_n (fr' := (10, [some (vi x)], [vi x])) (S' := S) 1 rfl ?_
    refine ev_r rfl rfl rfl ?_
    first | exact ⟨rfl, rfl⟩ | exact ⟨congrArg (fun z => Sum.inl (some (vi z))) (by first | rfl | (rw [if_pos (by omega)]) | (rw [if_neg (by omega)]) | (simp only [*]; done) | omega), rfl⟩
  · show Ev X k_J9_abs_0f7a4 (4, [some (vi x)], []) (S) _
    refine ev_n (fr' := (5, [some (vi x)], [vi x])) (S' := S) 1 rfl ?_
    refine ev_neg (z := -x) rfl (by omega) (by omega) (by omega) ?_
    show Ev X k_J9_abs_0f7a4 (6, [some (vi x)], [vi (-x)]) (S) _
    refine ev_n (fr' := (10, [some (vi x)], [vi (-x)])) (S' := S) 1 rfl ?_
    refine ev_r rfl rfl rfl ?_
    first | exact ⟨rfl, rfl⟩ | exact ⟨congrArg (fun z => Sum.inl (some (vi z))) (by first | rfl | (rw [if_pos (by omega)]) | (rw [if_neg (by omega)]) | (simp only [*]; done) | omega), rfl⟩
theorem sp_isLetter (X : AX) (S : AS) (z : Int) : Ev X k_X9_isLetter (0, [some (vi z)], []) (S) (fun o T => o = .inl (some (vi (if 97 ≤ z ∧ z ≤ 122 then 1 else 0))) ∧ T = S) := by
  refine ev_n (fr' := (8, [some (vi z)], [vl 122, vl 97, vl z])) (S' := S) 4 rfl ?_
  refine ev_cv rfl rfl rfl ⟨Nat.le_of_ble_eq_true rfl, Nat.le_of_ble_eq_true rfl⟩ (sp_isIn X _ z 97 122 ) ?_
  show Ev X k_X9_isLetter (11, [some (vi z)], [vi (if 97 ≤ z ∧ z ≤ 122 then 1 else 0)]) (S) _
  refine ev_r rfl rfl (rt_b _) ?_
  first | exact ⟨rfl, rfl⟩ | exact ⟨congrArg (fun z => Sum.inl (some (vi z))) (by first | rfl | (rw [if_pos (by omega)]) | (rw [if_neg (by omega)]) | (simp only [*]; done) | omega), rfl⟩
theorem sp_isDigit (X : AX) (S : AS) (z : Int) : Ev X k_X9_isDigit (0, [some (vi z)], []) (S) (fun o T => o = .inl (some (vi (if 48 ≤ z ∧ z ≤ 57 then 1 else 0))) ∧ T = S) := by
  refine ev_n (fr' := (8, [some (vi z)], [vl 57, vl 48, vl z])) (S' := S) 4 rfl ?_
  refine ev_cv rfl rfl rfl ⟨Nat.le_of_ble_eq_true rfl, Nat.le_of_ble_eq_true rfl⟩ (sp_isIn X _ z 48 57 ) ?_
  show Ev X k_X9_isDigit (11, [some (vi z)], [vi (if 48 ≤ z ∧ z ≤ 57 then 1 else 0)]) (S) _
  refine ev_r rfl rfl (rt_b _) ?_
  first | exact ⟨rfl, rfl⟩ | exact ⟨congrArg (fun z => Sum.inl (some (vi z))) (by first | rfl | (rw [if_pos (by omega)]) | (rw [if_neg (by omega)]) | (simp only [*]; done) | omega), rfl⟩
theorem sp_c_isLetter (X : AX) (S : AS) (z : Int) : Ev X k_X4_isLetter (0, [some (vi z)], []) (S) (fun o T => o = .inl (some (vi (if 97 ≤ z ∧ z ≤ 122 then 1 else 0))) ∧ T = S) := by
  refine ev_n (fr' := (3, [some (vi z)], [vi 97, vi z])) (S' := S) 2 rfl ?_
  refine ev_ic (c := .lt) (off := 13) rfl (by decide) (fun (g1 : z < 97) => ?_) (fun (g1 : ¬ (z < 97)) => ?_)
  · show Ev X k_X4_isLetter (16, [some (vi z)], []) (S) _
    refine ev_n (fr' := (17, [some (vi z)], [vi 0])) (S' := S) 1 rfl ?_
    refine ev_r rfl rfl rfl ?_
    first | exact ⟨rfl, rfl⟩ | exact ⟨congrArg (fun z => Sum.inl (some (vi z))) (by first | rfl | (rw [if_pos (by omega)]) | (rw [if_neg (by omega)]) | (simp only [*]; done) | omega), rfl⟩
  · show Ev X k_X4_isLetter (6, [some (vi z)], []) (S) _
    refine ev_n (fr' := (9, [some (vi z)], [vi 122, vi z])) (S' := S) 2 rfl ?_
    refine ev_ic (c := .gt) (off := 7) rfl (by decide) (fun (g2 : 122 < z) => ?_) (fun (g2 : ¬ (122 < z)) => ?_)
    · show Ev X k_X4_isLetter (16, [some (vi z)], []) (S) _
      refine ev_n (fr' := (17, [some (vi z)], [vi 0])) (S' := S) 1 rfl ?_
      refine ev_r rfl rfl rfl ?_
      first | exact ⟨rfl, rfl⟩ | exact ⟨congrArg (fun z => Sum.inl (some (vi z))) (by first | rfl | (rw [if_pos (by omega)]) | (rw [if_neg (by omega)]) | (simp only [*]; done) | omega), rfl⟩
    · show Ev X k_X4_isLetter (12, [some (vi z)], []) (S) _
      refine ev_n (fr' := (17, [some (vi z)], [vi 1])) (S' := S) 2 rfl ?_
      refine ev_r rfl rfl rfl ?_
      first | exact ⟨rfl, rfl⟩ | exact ⟨congrArg (fun z => Sum.inl (some (vi z))) (by first | rfl | (rw [if_pos (by omega)]) | (rw [if_neg (by omega)]) | (simp only [*]; done) | omega), rfl⟩
theorem sp_c_isDigit (X : AX) (S : AS) (z : Int) : Ev X k_X4_isDigit (0, [some (vi z)], []) (S) (fun o T => o = .inl (some (vi (if 48 ≤ z ∧ z ≤ 57 then 1 else 0))) ∧ T = S) := by
  refine ev_n (fr' := (3, [some (vi z)], [vi 48, vi z])) (S' := S) 2 rfl ?_
  refine ev_ic (c := .lt) (off := 13) rfl (by decide) (fun (g1 : z < 48) => ?_) (fun (g1 : ¬ (z < 48)) => ?_)
  · show Ev X k_X4_isDigit (16, [some (vi z)], []) (S) _
    refine ev_n (fr' := (17, [some (vi z)], [vi 0])) (S' := S) 1 rfl ?_
    refine ev_r rfl rfl rfl ?_
    first | exact ⟨rfl, rfl⟩ | exact ⟨congrArg (fun z => Sum.inl (some (vi z))) (by first | rfl | (rw [if_pos (by omega)]) | (rw [if_neg (by omega)]) | (simp only [*]; done) | omega), rfl⟩
  · show Ev X k_X4_isDigit (6, [some (vi z)], []) (S) _
    refine ev_n (fr' := (9, [some (vi z)], [vi 57, vi z])) (S' := S) 2 rfl ?_
    refine ev_ic (c := .gt) (off := 7) rfl (by decide) (fun (g2 : 57 < z) => ?_) (fun (g2 : ¬ (57 < z)) => ?_)
    · show Ev X k_X4_isDigit (16, [some (vi z)], []) (S) _
      refine ev_n (fr' := (17, [some (vi z)], [vi 0])) (S' := S) 1 rfl ?_
      refine ev_r rfl rfl rfl ?_
      first | exact ⟨rfl, rfl⟩ | exact ⟨congrArg (fun z => Sum.inl (some (vi z))) (by first | rfl | (rw [if_pos (by omega)]) | (rw [if_neg (by omega)]) | (simp only [*]; done) | omega), rfl⟩
    · show Ev X k_X4_isDigit (12, [some (vi z)], []) (S) _
      refine ev_n (fr' := (17, [some (vi z)], [vi 1])) (S' := S) 2 rfl ?_
      refine ev_r rfl rfl rfl ?_
      first | exact ⟨rfl, rfl⟩ | exact ⟨congrArg (fun z => Sum.inl (some (vi z))) (by first | rfl | (rw [if_pos (by omega)]) | (rw [if_neg (by omega)]) | (simp only [*]; done) | omega), rfl⟩
theorem sp_isShift (X : AX) (S : AS) (v : Int) : Ev X k_X9_isShift (0, [some (vi v)], []) (S) (fun o T => o = .inl (some (vi (if -48 ≤ v ∧ v ≤ 48 then 1 else 0))) ∧ T = S) := by
  refine ev_n (fr' := (8, [some (vi v)], [vl 48, vl (-48), vl v])) (S' := S) 4 rfl ?_
  refine ev_cv rfl rfl rfl ⟨Nat.le_of_ble_eq_true rfl, Nat.le_of_ble_eq_true rfl⟩ (sp_isIn X _ v (-48) 48 ) ?_
  show Ev X k_X9_isShift (11, [some (vi v)], [vi (if -48 ≤ v ∧ v ≤ 48 then 1 else 0)]) (S) _
  refine ev_r rfl rfl (rt_b _) ?_
  first | exact ⟨rfl, rfl⟩ | exact ⟨congrArg (fun z => Sum.inl (some (vi z))) (by first | rfl | (rw [if_pos (by omega)]) | (rw [if_neg (by omega)]) | (simp only [*]; done) | omega), rfl⟩
theorem sp_shapeAt (X : AX) (S : AS) (p : Int) (q : Int) (h : 0 ≤ p ∧ p ≤ 8 ∧ 0 ≤ q ∧ q ≤ 6) : Ev X k_X9_shapeAt (0, [some (vi p), some (vi q)], []) (S) (fun o T => o = .inl (some (vi (37 * p + 6 * q + 13))) ∧ T = S) := by
  refine ev_n (fr' := (5, [some (vi p), some (vi q)], [vi p, vi 37, vi 12])) (S' := S) 3 rfl ?_
  refine ev_mul (z := 37 * p) rfl (by omega) (by omega) (by omega) ?_
  show Ev X k_X9_shapeAt (6, [some (vi p), some (vi q)], [vi (37 * p), vi 12]) (S) _
  refine ev_add (z := 37 * p + 12) rfl (by omega) (by omega) (by omega) ?_
  show Ev X k_X9_shapeAt (7, [some (vi p), some (vi q)], [vi (37 * p + 12)]) (S) _
  refine ev_n (fr' := (8, [some (vi p), some (vi q)], [vi 1, vi (37 * p + 12)])) (S' := S) 1 rfl ?_
  refine ev_add (z := 37 * p + 13) rfl (by omega) (by omega) (by omega) ?_
  show Ev X k_X9_shapeAt (9, [some (vi p), some (vi q)], [vi (37 * p + 13)]) (S) _
  refine ev_n (fr' := (12, [some (vi p), some (vi q)], [vi q, vi 6, vi (37 * p + 13)])) (S' := S) 2 rfl ?_
  refine ev_mul (z := 6 * q) rfl (by omega) (by omega) (by omega) ?_
  show Ev X k_X9_shapeAt (13, [some (vi p), some (vi q)], [vi (6 * q), vi (37 * p + 13)]) (S) _
  refine ev_add (z := 37 * p + 6 * q + 13) rfl (by omega) (by omega) (by omega) ?_
  show Ev X k_X9_shapeAt (14, [some (vi p), some (vi q)], [vi (37 * p + 6 * q + 13)]) (S) _
  refine ev_r rfl rfl rfl ?_
  first | exact ⟨rfl, rfl⟩ | exact ⟨congrArg (fun z => Sum.inl (some (vi z))) (by first | rfl | (rw [if_pos (by omega)]) | (rw [if_neg (by omega)]) | (simp only [*]; done) | omega), rfl⟩
theorem sp_useAt (X : AX) (S : AS) (p : Int) (q : Int) (h : 0 ≤ p ∧ p ≤ 8 ∧ 0 ≤ q ∧ q ≤ 6) : Ev X k_X9_useAt (0, [some (vi p), some (vi q)], []) (S) (fun o T => o = .inl (some (vi (19 * p + 3 * q + 310))) ∧ T = S) := by
  refine ev_n (fr' := (6, [some (vi p), some (vi q)], [vi p, vi 19, vi 309])) (S' := S) 3 rfl ?_
  refine ev_mul (z := 19 * p) rfl (by omega) (by omega) (by omega) ?_
  show Ev X k_X9_useAt (7, [some (vi p), some (vi q)], [vi (19 * p), vi 309]) (S) _
  refine ev_add (z := 19 * p + 309) rfl (by omega) (by omega) (by omega) ?_
  show Ev X k_X9_useAt (8, [some (vi p), some (vi q)], [vi (19 * p + 309)]) (S) _
  refine ev_n (fr' := (9, [some (vi p), some (vi q)], [vi 1, vi (19 * p + 309)])) (S' := S) 1 rfl ?_
  refine ev_add (z := 19 * p + 310) rfl (by omega) (by omega) (by omega) ?_
  show Ev X k_X9_useAt (10, [some (vi p), some (vi q)], [vi (19 * p + 310)]) (S) _
  refine ev_n (fr' := (12, [some (vi p), some (vi q)], [vi q, vi 3, vi (19 * p + 310)])) (S' := S) 2 rfl ?_
  refine ev_mul (z := 3 * q) rfl (by omega) (by omega) (by omega) ?_
  show Ev X k_X9_useAt (13, [some (vi p), some (vi q)], [vi (3 * q), vi (19 * p + 310)]) (S) _
  refine ev_add (z := 19 * p + 3 * q + 310) rfl (by omega) (by omega) (by omega) ?_
  show Ev X k_X9_useAt (14, [some (vi p), some (vi q)], [vi (19 * p + 3 * q + 310)]) (S) _
  refine ev_r rfl rfl rfl ?_
  first | exact ⟨rfl, rfl⟩ | exact ⟨congrArg (fun z => Sum.inl (some (vi z))) (by first | rfl | (rw [if_pos (by omega)]) | (rw [if_neg (by omega)]) | (simp only [*]; done) | omega), rfl⟩
def lowF (kd what : Int) : Int := if what = 5 then (if kd = 0 then 0 else 1) else if what < 3 then 0 else if kd = 2 then 0 else 1
def highF (kd what : Int) : Int := if what = 5 then (if kd = 0 then 0 else 12) else if what < 3 then (if kd = 2 then 48 else 47) else 48
theorem sp_leastOf1 (X : AX) (S : AS) (kd : Int) : Ev X k_X8_leastOf (0, [some (vi kd), some (vi 1)], []) (S) (fun o T => o = .inl (some (vi (lowF kd 1))) ∧ T = S) := by
  refine ev_n (fr' := (50, [some (vi kd), some (vi 1)], [vi 0])) (S' := S) 3 rfl ?_
  refine ev_r rfl rfl rfl ?_
  exact ⟨congrArg (fun z => Sum.inl (some (vi z))) (by simp only [lowF, highF]; (repeat' split) <;> first | omega | simp_all), rfl⟩
theorem sp_leastOf2 (X : AX) (S : AS) (kd : Int) : Ev X k_X8_leastOf (0, [some (vi kd), some (vi 2)], []) (S) (fun o T => o = .inl (some (vi (lowF kd 2))) ∧ T = S) := by
  refine ev_n (fr' := (50, [some (vi kd), some (vi 2)], [vi 0])) (S' := S) 3 rfl ?_
  refine ev_r rfl rfl rfl ?_
  exact ⟨congrArg (fun z => Sum.inl (some (vi z))) (by simp only [lowF, highF]; (repeat' split) <;> first | omega | simp_all), rfl⟩
theorem sp_leastOf3 (X : AX) (S : AS) (kd : Int) : Ev X k_X8_leastOf (0, [some (vi kd), some (vi 3)], []) (S) (fun o T => o = .inl (some (vi (lowF kd 3))) ∧ T = S) := by
  refine ev_n (fr' := (30, [some (vi kd), some (vi 3)], [vi 2, vi kd])) (S' := S) 4 rfl ?_
  refine ev_ic (c := .ne) (off := 7) rfl (by decide) (fun (g1 : kd ≠ 2) => ?_) (fun (g1 : ¬ (kd ≠ 2)) => ?_)
  · show Ev X k_X8_leastOf (37, [some (vi kd), some (vi 3)], []) (S) _
    refine ev_n (fr' := (38, [some (vi kd), some (vi 3)], [vi 1])) (S' := S) 1 rfl ?_
    refine ev_r rfl rfl rfl ?_
    exact ⟨congrArg (fun z => Sum.inl (some (vi z))) (by simp only [lowF, highF]; (repeat' split) <;> first | omega | simp_all), rfl⟩
  · show Ev X k_X8_leastOf (33, [some (vi kd), some (vi 3)], []) (S) _
    refine ev_n (fr' := (38, [some (vi kd), some (vi 3)], [vi 0])) (S' := S) 2 rfl ?_
    refine ev_r rfl rfl rfl ?_
    exact ⟨congrArg (fun z => Sum.inl (some (vi z))) (by simp only [lowF, highF]; (repeat' split) <;> first | omega | simp_all), rfl⟩
theorem sp_leastOf4 (X : AX) (S : AS) (kd : Int) : Ev X k_X8_leastOf (0, [some (vi kd), some (vi 4)], []) (S) (fun o T => o = .inl (some (vi (lowF kd 4))) ∧ T = S) := by
  refine ev_n (fr' := (30, [some (vi kd), some (vi 4)], [vi 2, vi kd])) (S' := S) 4 rfl ?_
  refine ev_ic (c := .ne) (off := 7) rfl (by decide) (fun (g1 : kd ≠ 2) => ?_) (fun (g1 : ¬ (kd ≠ 2)) => ?_)
  · show Ev X k_X8_leastOf (37, [some (vi kd), some (vi 4)], []) (S) _
    refine ev_n (fr' := (38, [some (vi kd), some (vi 4)], [vi 1])) (S' := S) 1 rfl ?_
    refine ev_r rfl rfl rfl ?_
    exact ⟨congrArg (fun z => Sum.inl (some (vi z))) (by simp only [lowF, highF]; (repeat' split) <;> first | omega | simp_all), rfl⟩
  · show Ev X k_X8_leastOf (33, [some (vi kd), some (vi 4)], []) (S) _
    refine ev_n (fr' := (38, [some (vi kd), some (vi 4)], [vi 0])) (S' := S) 2 rfl ?_
    refine ev_r rfl rfl rfl ?_
    exact ⟨congrArg (fun z => Sum.inl (some (vi z))) (by simp only [lowF, highF]; (repeat' split) <;> first | omega | simp_all), rfl⟩
theorem sp_leastOf5 (X : AX) (S : AS) (kd : Int) : Ev X k_X8_leastOf (0, [some (vi kd), some (vi 5)], []) (S) (fun o T => o = .inl (some (vi (lowF kd 5))) ∧ T = S) := by
  refine ev_n (fr' := (40, [some (vi kd), some (vi 5)], [vi kd])) (S' := S) 3 rfl ?_
  refine ev_if (c := .ne) (off := 7) rfl (by decide) (fun (g1 : kd ≠ 0) => ?_) (fun (g1 : ¬ (kd ≠ 0)) => ?_)
  · show Ev X k_X8_leastOf (47, [some (vi kd), some (vi 5)], []) (S) _
    refine ev_n (fr' := (48, [some (vi kd), some (vi 5)], [vi 1])) (S' := S) 1 rfl ?_
    refine ev_r rfl rfl rfl ?_
    exact ⟨congrArg (fun z => Sum.inl (some (vi z))) (by simp only [lowF, highF]; (repeat' split) <;> first | omega | simp_all), rfl⟩
  · show Ev X k_X8_leastOf (43, [some (vi kd), some (vi 5)], []) (S) _
    refine ev_n (fr' := (48, [some (vi kd), some (vi 5)], [vi 0])) (S' := S) 2 rfl ?_
    refine ev_r rfl rfl rfl ?_
    exact ⟨congrArg (fun z => Sum.inl (some (vi z))) (by simp only [lowF, highF]; (repeat' split) <;> first | omega | simp_all), rfl⟩
theorem sp_leastOf (X : AX) (S : AS) (kd what : Int) (h : 1 ≤ what ∧ what ≤ 5) : Ev X k_X8_leastOf (0, [some (vi kd), some (vi what)], []) S (fun o T => o = .inl (some (vi (lowF kd what))) ∧ T = S) := by
  rcases (show what = 1 ∨ what = 2 ∨ what = 3 ∨ what = 4 ∨ what = 5 by omega) with h | h | h | h | h <;> subst h
  · exact sp_leastOf1 X S kd
  · exact sp_leastOf2 X S kd
  · exact sp_leastOf3 X S kd
  · exact sp_leastOf4 X S kd
  · exact sp_leastOf5 X S kd
theorem sp_greatestOf1 (X : AX) (S : AS) (kd : Int) : Ev X k_X8_greatestOf (0, [some (vi kd), some (vi 1)], []) (S) (fun o T => o = .inl (some (vi (highF kd 1))) ∧ T = S) := by
  refine ev_n (fr' := (38, [some (vi kd), some (vi 1)], [vi 2, vi kd])) (S' := S) 4 rfl ?_
  refine ev_ic (c := .ne) (off := 8) rfl (by decide) (fun (g1 : kd ≠ 2) => ?_) (fun (g1 : ¬ (kd ≠ 2)) => ?_)
  · show Ev X k_X8_greatestOf (46, [some (vi kd), some (vi 1)], []) (S) _
    refine ev_n (fr' := (48, [some (vi kd), some (vi 1)], [vi 47])) (S' := S) 1 rfl ?_
    refine ev_r rfl rfl rfl ?_
    exact ⟨congrArg (fun z => Sum.inl (some (vi z))) (by simp only [lowF, highF]; (repeat' split) <;> first | omega | simp_all), rfl⟩
  · show Ev X k_X8_greatestOf (41, [some (vi kd), some (vi 1)], []) (S) _
    refine ev_n (fr' := (48, [some (vi kd), some (vi 1)], [vi 48])) (S' := S) 2 rfl ?_
    refine ev_r rfl rfl rfl ?_
    exact ⟨congrArg (fun z => Sum.inl (some (vi z))) (by simp only [lowF, highF]; (repeat' split) <;> first | omega | simp_all), rfl⟩
theorem sp_greatestOf2 (X : AX) (S : AS) (kd : Int) : Ev X k_X8_greatestOf (0, [some (vi kd), some (vi 2)], []) (S) (fun o T => o = .inl (some (vi (highF kd 2))) ∧ T = S) := by
  refine ev_n (fr' := (38, [some (vi kd), some (vi 2)], [vi 2, vi kd])) (S' := S) 4 rfl ?_
  refine ev_ic (c := .ne) (off := 8) rfl (by decide) (fun (g1 : kd ≠ 2) => ?_) (fun (g1 : ¬ (kd ≠ 2)) => ?_)
  · show Ev X k_X8_greatestOf (46, [some (vi kd), some (vi 2)], []) (S) _
    refine ev_n (fr' := (48, [some (vi kd), some (vi 2)], [vi 47])) (S' := S) 1 rfl ?_
    refine ev_r rfl rfl rfl ?_
    exact ⟨congrArg (fun z => Sum.inl (some (vi z))) (by simp only [lowF, highF]; (repeat' split) <;> first | omega | simp_all), rfl⟩
  · show Ev X k_X8_greatestOf (41, [some (vi kd), some (vi 2)], []) (S) _
    refine ev_n (fr' := (48, [some (vi kd), some (vi 2)], [vi 48])) (S' := S) 2 rfl ?_
    refine ev_r rfl rfl rfl ?_
    exact ⟨congrArg (fun z => Sum.inl (some (vi z))) (by simp only [lowF, highF]; (repeat' split) <;> first | omega | simp_all), rfl⟩
theorem sp_greatestOf3 (X : AX) (S : AS) (kd : Int) : Ev X k_X8_greatestOf (0, [some (vi kd), some (vi 3)], []) (S) (fun o T => o = .inl (some (vi (highF kd 3))) ∧ T = S) := by
  refine ev_n (fr' := (62, [some (vi kd), some (vi 3)], [vi 48])) (S' := S) 3 rfl ?_
  refine ev_r rfl rfl rfl ?_
  exact ⟨congrArg (fun z => Sum.inl (some (vi z))) (by simp only [lowF, highF]; (repeat' split) <;> first | omega | simp_all), rfl⟩
theorem sp_greatestOf4 (X : AX) (S : AS) (kd : Int) : Ev X k_X8_greatestOf (0, [some (vi kd), some (vi 4)], []) (S) (fun o T => o = .inl (some (vi (highF kd 4))) ∧ T = S) := by
  refine ev_n (fr' := (62, [some (vi kd), some (vi 4)], [vi 48])) (S' := S) 3 rfl ?_
  refine ev_r rfl rfl rfl ?_
  exact ⟨congrArg (fun z => Sum.inl (some (vi z))) (by simp only [lowF, highF]; (repeat' split) <;> first | omega | simp_all), rfl⟩
theorem sp_greatestOf5 (X : AX) (S : AS) (kd : Int) : Ev X k_X8_greatestOf (0, [some (vi kd), some (vi 5)], []) (S) (fun o T => o = .inl (some (vi (highF kd 5))) ∧ T = S) := by
  refine ev_n (fr' := (50, [some (vi kd), some (vi 5)], [vi kd])) (S' := S) 3 rfl ?_
  refine ev_if (c := .ne) (off := 7) rfl (by decide) (fun (g1 : kd ≠ 0) => ?_) (fun (g1 : ¬ (kd ≠ 0)) => ?_)
  · show Ev X k_X8_greatestOf (57, [some (vi kd), some (vi 5)], []) (S) _
    refine ev_n (fr' := (59, [some (vi kd), some (vi 5)], [vi 12])) (S' := S) 1 rfl ?_
    refine ev_r rfl rfl rfl ?_
    exact ⟨congrArg (fun z => Sum.inl (some (vi z))) (by simp only [lowF, highF]; (repeat' split) <;> first | omega | simp_all), rfl⟩
  · show Ev X k_X8_greatestOf (53, [some (vi kd), some (vi 5)], []) (S) _
    refine ev_n (fr' := (59, [some (vi kd), some (vi 5)], [vi 0])) (S' := S) 2 rfl ?_
    refine ev_r rfl rfl rfl ?_
    exact ⟨congrArg (fun z => Sum.inl (some (vi z))) (by simp only [lowF, highF]; (repeat' split) <;> first | omega | simp_all), rfl⟩
theorem sp_greatestOf (X : AX) (S : AS) (kd what : Int) (h : 1 ≤ what ∧ what ≤ 5) : Ev X k_X8_greatestOf (0, [some (vi kd), some (vi what)], []) S (fun o T => o = .inl (some (vi (highF kd what))) ∧ T = S) := by
  rcases (show what = 1 ∨ what = 2 ∨ what = 3 ∨ what = 4 ∨ what = 5 by omega) with h | h | h | h | h <;> subst h
  · exact sp_greatestOf1 X S kd
  · exact sp_greatestOf2 X S kd
  · exact sp_greatestOf3 X S kd
  · exact sp_greatestOf4 X S kd
  · exact sp_greatestOf5 X S kd
theorem sp_low1 (X : AX) (S : AS) (kd : Int) : Ev X k_X9_low (0, [some (vi kd), some (vi 1)], []) (S) (fun o T => o = .inl (some (vi (lowF kd 1))) ∧ T = S) := by
  refine ev_n (fr' := (36, [some (vi kd), some (vi 1)], [vi 0])) (S' := S) 5 rfl ?_
  refine ev_r rfl rfl rfl ?_
  exact ⟨congrArg (fun z => Sum.inl (some (vi z))) (by simp only [lowF, highF]; (repeat' split) <;> first | omega | simp_all), rfl⟩
theorem sp_low2 (X : AX) (S : AS) (kd : Int) : Ev X k_X9_low (0, [some (vi kd), some (vi 2)], []) (S) (fun o T => o = .inl (some (vi (lowF kd 2))) ∧ T = S) := by
  refine ev_n (fr' := (36, [some (vi kd), some (vi 2)], [vi 0])) (S' := S) 5 rfl ?_
  refine ev_r rfl rfl rfl ?_
  exact ⟨congrArg (fun z => Sum.inl (some (vi z))) (by simp only [lowF, highF]; (repeat' split) <;> first | omega | simp_all), rfl⟩
theorem sp_low3 (X : AX) (S : AS) (kd : Int) : Ev X k_X9_low (0, [some (vi kd), some (vi 3)], []) (S) (fun o T => o = .inl (some (vi (lowF kd 3))) ∧ T = S) := by
  refine ev_n (fr' := (28, [some (vi kd), some (vi 3)], [vi 2, vi kd])) (S' := S) 8 rfl ?_
  refine ev_ic (c := .ne) (off := 7) rfl (by decide) (fun (g1 : kd ≠ 2) => ?_) (fun (g1 : ¬ (kd ≠ 2)) => ?_)
  · show Ev X k_X9_low (35, [some (vi kd), some (vi 3)], []) (S) _
    refine ev_n (fr' := (36, [some (vi kd), some (vi 3)], [vi 1])) (S' := S) 1 rfl ?_
    refine ev_r rfl rfl rfl ?_
    exact ⟨congrArg (fun z => Sum.inl (some (vi z))) (by simp only [lowF, highF]; (repeat' split) <;> first | omega | simp_all), rfl⟩
  · show Ev X k_X9_low (31, [some (vi kd), some (vi 3)], []) (S) _
    refine ev_n (fr' := (36, [some (vi kd), some (vi 3)], [vi 0])) (S' := S) 2 rfl ?_
    refine ev_r rfl rfl rfl ?_
    exact ⟨congrArg (fun z => Sum.inl (some (vi z))) (by simp only [lowF, highF]; (repeat' split) <;> first | omega | simp_all), rfl⟩
theorem sp_low4 (X : AX) (S : AS) (kd : Int) : Ev X k_X9_low (0, [some (vi kd), some (vi 4)], []) (S) (fun o T => o = .inl (some (vi (lowF kd 4))) ∧ T = S) := by
  refine ev_n (fr' := (28, [some (vi kd), some (vi 4)], [vi 2, vi kd])) (S' := S) 8 rfl ?_
  refine ev_ic (c := .ne) (off := 7) rfl (by decide) (fun (g1 : kd ≠ 2) => ?_) (fun (g1 : ¬ (kd ≠ 2)) => ?_)
  · show Ev X k_X9_low (35, [some (vi kd), some (vi 4)], []) (S) _
    refine ev_n (fr' := (36, [some (vi kd), some (vi 4)], [vi 1])) (S' := S) 1 rfl ?_
    refine ev_r rfl rfl rfl ?_
    exact ⟨congrArg (fun z => Sum.inl (some (vi z))) (by simp only [lowF, highF]; (repeat' split) <;> first | omega | simp_all), rfl⟩
  · show Ev X k_X9_low (31, [some (vi kd), some (vi 4)], []) (S) _
    refine ev_n (fr' := (36, [some (vi kd), some (vi 4)], [vi 0])) (S' := S) 2 rfl ?_
    refine ev_r rfl rfl rfl ?_
    exact ⟨congrArg (fun z => Sum.inl (some (vi z))) (by simp only [lowF, highF]; (repeat' split) <;> first | omega | simp_all), rfl⟩
theorem sp_low5 (X : AX) (S : AS) (kd : Int) : Ev X k_X9_low (0, [some (vi kd), some (vi 5)], []) (S) (fun o T => o = .inl (some (vi (lowF kd 5))) ∧ T = S) := by
  refine ev_n (fr' := (15, [some (vi kd), some (vi 5)], [vi kd])) (S' := S) 7 rfl ?_
  refine ev_if (c := .ne) (off := 7) rfl (by decide) (fun (g1 : kd ≠ 0) => ?_) (fun (g1 : ¬ (kd ≠ 0)) => ?_)
  · show Ev X k_X9_low (22, [some (vi kd), some (vi 5)], []) (S) _
    refine ev_n (fr' := (36, [some (vi kd), some (vi 5)], [vi 1])) (S' := S) 2 rfl ?_
    refine ev_r rfl rfl rfl ?_
    exact ⟨congrArg (fun z => Sum.inl (some (vi z))) (by simp only [lowF, highF]; (repeat' split) <;> first | omega | simp_all), rfl⟩
  · show Ev X k_X9_low (18, [some (vi kd), some (vi 5)], []) (S) _
    refine ev_n (fr' := (36, [some (vi kd), some (vi 5)], [vi 0])) (S' := S) 2 rfl ?_
    refine ev_r rfl rfl rfl ?_
    exact ⟨congrArg (fun z => Sum.inl (some (vi z))) (by simp only [lowF, highF]; (repeat' split) <;> first | omega | simp_all), rfl⟩
theorem sp_low (X : AX) (S : AS) (kd what : Int) (h : 1 ≤ what ∧ what ≤ 5) : Ev X k_X9_low (0, [some (vi kd), some (vi what)], []) S (fun o T => o = .inl (some (vi (lowF kd what))) ∧ T = S) := by
  rcases (show what = 1 ∨ what = 2 ∨ what = 3 ∨ what = 4 ∨ what = 5 by omega) with h | h | h | h | h <;> subst h
  · exact sp_low1 X S kd
  · exact sp_low2 X S kd
  · exact sp_low3 X S kd
  · exact sp_low4 X S kd
  · exact sp_low5 X S kd
theorem sp_high1 (X : AX) (S : AS) (kd : Int) : Ev X k_X9_high (0, [some (vi kd), some (vi 1)], []) (S) (fun o T => o = .inl (some (vi (highF kd 1))) ∧ T = S) := by
  refine ev_n (fr' := (25, [some (vi kd), some (vi 1)], [vi 2, vi kd])) (S' := S) 8 rfl ?_
  refine ev_ic (c := .eq) (off := 8) rfl (by decide) (fun (g1 : kd = 2) => ?_) (fun (g1 : ¬ (kd = 2)) => ?_)
  · show Ev X k_X9_high (33, [some (vi kd), some (vi 1)], []) (S) _
    refine ev_n (fr' := (35, [some (vi kd), some (vi 1)], [vi 48])) (S' := S) 1 rfl ?_
    refine ev_r rfl rfl rfl ?_
    exact ⟨congrArg (fun z => Sum.inl (some (vi z))) (by simp only [lowF, highF]; (repeat' split) <;> first | omega | simp_all), rfl⟩
  · show Ev X k_X9_high (28, [some (vi kd), some (vi 1)], []) (S) _
    refine ev_n (fr' := (35, [some (vi kd), some (vi 1)], [vi 47])) (S' := S) 2 rfl ?_
    refine ev_r rfl rfl rfl ?_
    exact ⟨congrArg (fun z => Sum.inl (some (vi z))) (by simp only [lowF, highF]; (repeat' split) <;> first | omega | simp_all), rfl⟩
theorem sp_high2 (X : AX) (S : AS) (kd : Int) : Ev X k_X9_high (0, [some (vi kd), some (vi 2)], []) (S) (fun o T => o = .inl (some (vi (highF kd 2))) ∧ T = S) := by
  refine ev_n (fr' := (25, [some (vi kd), some (vi 2)], [vi 2, vi kd])) (S' := S) 8 rfl ?_
  refine ev_ic (c := .eq) (off := 8) rfl (by decide) (fun (g1 : kd = 2) => ?_) (fun (g1 : ¬ (kd = 2)) => ?_)
  · show Ev X k_X9_high (33, [some (vi kd), some (vi 2)], []) (S) _
    refine ev_n (fr' := (35, [some (vi kd), some (vi 2)], [vi 48])) (S' := S) 1 rfl ?_
    refine ev_r rfl rfl rfl ?_
    exact ⟨congrArg (fun z => Sum.inl (some (vi z))) (by simp only [lowF, highF]; (repeat' split) <;> first | omega | simp_all), rfl⟩
  · show Ev X k_X9_high (28, [some (vi kd), some (vi 2)], []) (S) _
    refine ev_n (fr' := (35, [some (vi kd), some (vi 2)], [vi 47])) (S' := S) 2 rfl ?_
    refine ev_r rfl rfl rfl ?_
    exact ⟨congrArg (fun z => Sum.inl (some (vi z))) (by simp only [lowF, highF]; (repeat' split) <;> first | omega | simp_all), rfl⟩
theorem sp_high3 (X : AX) (S : AS) (kd : Int) : Ev X k_X9_high (0, [some (vi kd), some (vi 3)], []) (S) (fun o T => o = .inl (some (vi (highF kd 3))) ∧ T = S) := by
  refine ev_n (fr' := (35, [some (vi kd), some (vi 3)], [vi 48])) (S' := S) 7 rfl ?_
  refine ev_r rfl rfl rfl ?_
  exact ⟨congrArg (fun z => Sum.inl (some (vi z))) (by simp only [lowF, highF]; (repeat' split) <;> first | omega | simp_all), rfl⟩
theorem sp_high4 (X : AX) (S : AS) (kd : Int) : Ev X k_X9_high (0, [some (vi kd), some (vi 4)], []) (S) (fun o T => o = .inl (some (vi (highF kd 4))) ∧ T = S) := by
  refine ev_n (fr' := (35, [some (vi kd), some (vi 4)], [vi 48])) (S' := S) 7 rfl ?_
  refine ev_r rfl rfl rfl ?_
  exact ⟨congrArg (fun z => Sum.inl (some (vi z))) (by simp only [lowF, highF]; (repeat' split) <;> first | omega | simp_all), rfl⟩
theorem sp_high5 (X : AX) (S : AS) (kd : Int) : Ev X k_X9_high (0, [some (vi kd), some (vi 5)], []) (S) (fun o T => o = .inl (some (vi (highF kd 5))) ∧ T = S) := by
  refine ev_n (fr' := (6, [some (vi kd), some (vi 5)], [vi kd])) (S' := S) 4 rfl ?_
  refine ev_if (c := .ne) (off := 7) rfl (by decide) (fun (g1 : kd ≠ 0) => ?_) (fun (g1 : ¬ (kd ≠ 0)) => ?_)
  · show Ev X k_X9_high (13, [some (vi kd), some (vi 5)], []) (S) _
    refine ev_n (fr' := (35, [some (vi kd), some (vi 5)], [vi 12])) (S' := S) 2 rfl ?_
    refine ev_r rfl rfl rfl ?_
    exact ⟨congrArg (fun z => Sum.inl (some (vi z))) (by simp only [lowF, highF]; (repeat' split) <;> first | omega | simp_all), rfl⟩
  · show Ev X k_X9_high (9, [some (vi kd), some (vi 5)], []) (S) _
    refine ev_n (fr' := (35, [some (vi kd), some (vi 5)], [vi 0])) (S' := S) 2 rfl ?_
    refine ev_r rfl rfl rfl ?_
    exact ⟨congrArg (fun z => Sum.inl (some (vi z))) (by simp only [lowF, highF]; (repeat' split) <;> first | omega | simp_all), rfl⟩
theorem sp_high (X : AX) (S : AS) (kd what : Int) (h : 1 ≤ what ∧ what ≤ 5) : Ev X k_X9_high (0, [some (vi kd), some (vi what)], []) S (fun o T => o = .inl (some (vi (highF kd what))) ∧ T = S) := by
  rcases (show what = 1 ∨ what = 2 ∨ what = 3 ∨ what = 4 ∨ what = 5 by omega) with h | h | h | h | h <;> subst h
  · exact sp_high1 X S kd
  · exact sp_high2 X S kd
  · exact sp_high3 X S kd
  · exact sp_high4 X S kd
  · exact sp_high5 X S kd
