/-! USES AND MASKS (printed by gen/g59.py) -/
def usF (g : F1) (x : Int) (i : Nat) : Int := cntF (fun u => g (19 * i + 3 * u + 310)) x (g (19 * i + 309)).toNat
def upF (g : F1) (x : Int) : Int := sumF (usF g x) (g 308).toNat
def pow2 (i : Nat) : Int := ((2 ^ i : Nat) : Int)
def mkF (g : F1) (x : Int) (n : Nat) : Int := sumF (fun i => if 0 < usF g x i then pow2 i else 0) n
def unF (g : F1) : Int := sumF (fun p => if upF g (p : Int) = 0 then 1 else 0) (g 11).toNat
theorem or_pow : ∀ m : Fin 256, ∀ i : Fin 8, m.val < 2 ^ i.val → opI (· ||| ·) (m.val : Int) (opI fShl 1 (i.val : Int)) = (m.val : Int) + ((2 ^ i.val : Nat) : Int) := by decide +kernel
theorem or_pow2 : ∀ m : Fin 256, ∀ i : Fin 8, m.val < 2 ^ i.val → opI (· ||| ·) ((m.val : Int) + ((2 ^ i.val : Nat) : Int)) (opI fShl 1 (i.val : Int)) = (m.val : Int) + ((2 ^ i.val : Nat) : Int) := by decide +kernel
theorem or_nil : ∀ m : Fin 512, opI (· ||| ·) (m.val : Int) 0 = (m.val : Int) := by decide +kernel
theorem pow2_rng {i : Nat} (h : i < 8) : 1 ≤ pow2 i ∧ pow2 i ≤ 128 := by
  have : ∀ k : Fin 8, 1 ≤ 2 ^ k.val ∧ 2 ^ k.val ≤ 128 := by decide
  have := this ⟨i, h⟩
  unfold pow2; simp only at this; omega
theorem mkF_rng (g : F1) (x : Int) : ∀ n : Nat, 0 ≤ mkF g x n ∧ mkF g x n < pow2 n
  | 0 => by unfold mkF pow2; simp [sumF]
  | n + 1 => by
    have h := mkF_rng g x n
    have e : pow2 (n + 1) = 2 * pow2 n := by unfold pow2; rw [Nat.pow_succ]; omega
    have e2 : mkF g x (n + 1) = mkF g x n + (if 0 < usF g x n then pow2 n else 0) := rfl
    rw [e, e2]
    split <;> omega
theorem or_a {m : Int} {i : Nat} (hi : i < 8) (h0 : 0 ≤ m) (h1 : m < pow2 i) : opI (· ||| ·) m (opI fShl 1 (i : Int)) = m + pow2 i := by
  have hp := pow2_rng hi
  obtain ⟨k, rfl⟩ : ∃ k : Nat, m = k := ⟨m.toNat, by omega⟩
  exact or_pow ⟨k, by omega⟩ ⟨i, hi⟩ (by unfold pow2 at h1; show k < 2 ^ i; omega)
theorem or_b {m : Int} {i : Nat} (hi : i < 8) (h0 : 0 ≤ m) (h1 : m < pow2 i) : opI (· ||| ·) (m + pow2 i) (opI fShl 1 (i : Int)) = m + pow2 i := by
  have hp := pow2_rng hi
  obtain ⟨k, rfl⟩ : ∃ k : Nat, m = k := ⟨m.toNat, by omega⟩
  exact or_pow2 ⟨k, by omega⟩ ⟨i, hi⟩ (by unfold pow2 at h1; show k < 2 ^ i; omega)
theorem or_c {m : Int} (h0 : 0 ≤ m) (h1 : m < 512) : opI (· ||| ·) m 0 = m := by
  obtain ⟨k, rfl⟩ : ∃ k : Nat, m = k := ⟨m.toNat, by omega⟩
  exact or_nil ⟨k, by omega⟩
theorem sumF_zero {f : Nat → Int} : ∀ n : Nat, (∀ i, i < n → 0 ≤ f i) → (sumF f n = 0 ↔ ∀ i, i < n → f i = 0)
  | 0, _ => ⟨fun _ i hi => absurd hi (by omega), fun _ => rfl⟩
  | n + 1, h => by
    have ih := sumF_zero n (fun i hi => h i (by omega))
    have h1 := sumF_le (f := fun _ => 0) (f' := f) n (fun i hi => h i (by omega))
    have h2 : sumF (fun _ => (0 : Int)) n = 0 := by
      clear ih h1 h; induction n with
      | zero => rfl
      | succ n ih => simp only [sumF, ih]; rfl
    have h3 := h n (by omega)
    simp only [sumF]
    constructor
    · intro q i hi
      rcases Nat.lt_succ_iff_lt_or_eq.mp hi with e | e
      · exact ih.mp (by omega) i e
      · rw [e]; omega
    · intro q
      rw [ih.mpr (fun i hi => q i (by omega)), q n (by omega)]; rfl
theorem usF_rng (g : F1) (x : Int) (i : Nat) : 0 ≤ usF g x i ∧ usF g x i ≤ (g (19 * i + 309)).toNat := cntF_rng _ _ _
theorem mk_up {g : F1} (hw : WI g) (x : Int) : mkF g x (g 308).toNat = 0 ↔ upF g x = 0 := by
  unfold mkF upF
  have h8 := hw.2.1
  rw [sumF_zero _ (fun i hi => by have := pow2_rng (i := i) (by omega); split <;> omega), sumF_zero _ (fun i _ => (usF_rng g x i).1)]
  constructor
  · intro q i hi
    have h1 := q i hi
    have h2 := usF_rng g x i
    have h3 := pow2_rng (i := i) (by omega)
    by_cases e : 0 < usF g x i
    · simp only [if_pos e] at h1; omega
    · omega
  · intro q i hi
    have h1 := q i hi
    simp only [h1]; rfl
theorem lp_usesInIcon (X : AX) (I J : Nat → Nat → Int) (cc ss : Nat) {g : F1} (i : Nat) (x : Int) (hI : IRep I J 9 g) (hwp : WP g) (hwi : WI g) (hi : (i : Int) < g 308) (k : Nat) (z : Int) (hk : (k : Int) ≤ g (19 * i + 309)) (hz : z = cntF (fun u => g (19 * i + 3 * u + 310)) x k) : Ev X k_X2_usesInIcon (5, [some (vr 1), some (vi (i : Int)), some (vi x), some (vi z), some (vi (k : Int))], []) (MS I J cc ss) (fun o T => o = .inl (some (vi (usF g x i))) ∧ T = MS I J cc ss) := by
  have hb := cntF_rng (fun u => g (19 * i + 3 * u + 310)) x k
  have hb2 := (hwi.2.2 i hi).2.1
  refine ev_n (fr' := (12, [some (vr 1), some (vi (i : Int)), some (vi x), some (vi z), some (vi (k : Int))], [vi (i : Int), vr 9, vi (k : Int)])) (S' := MS I J cc ss) 4 rfl ?_
  refine ev_cv rfl rfl rfl ⟨Nat.le_of_ble_eq_true rfl, Nat.le_of_ble_eq_true rfl⟩ (sp_itemsOf_9 X _ _ _ _ i hI hwi (by omega)) ?_
  show Ev X k_X2_usesInIcon (15, [some (vr 1), some (vi (i : Int)), some (vi x), some (vi z), some (vi (k : Int))], [vi (g (19 * i + 309)), vi (k : Int)]) (MS I J cc ss) _
  refine ev_ic (c := .ge) (off := 27) rfl (by decide) (fun (g1 : (g (19 * i + 309)) ≤ (k : Int)) => ?_) (fun (g1 : ¬ ((g (19 * i + 309)) ≤ (k : Int))) => ?_)
  · show Ev X k_X2_usesInIcon (42, [some (vr 1), some (vi (i : Int)), some (vi x), some (vi z), some (vi (k : Int))], []) (MS I J cc ss) _
    refine ev_n (fr' := (43, [some (vr 1), some (vi (i : Int)), some (vi x), some (vi z), some (vi (k : Int))], [vi z])) (S' := MS I J cc ss) 1 rfl ?_
    refine ev_r rfl rfl rfl ?_
    exact ⟨congrArg (fun z => Sum.inl (some (vi z))) (by rw [hz]; unfold usF; rw [show (g (19 * i + 309)).toNat = k by omega]), rfl⟩
  · show Ev X k_X2_usesInIcon (18, [some (vr 1), some (vi (i : Int)), some (vi x), some (vi z), some (vi (k : Int))], []) (MS I J cc ss) _
    refine ev_n (fr' := (26, [some (vr 1), some (vi (i : Int)), some (vi x), some (vi z), some (vi (k : Int))], [vi 0, vi (k : Int), vi (i : Int), vr 9])) (S' := MS I J cc ss) 5 rfl ?_
    refine ev_cv rfl rfl rfl ⟨Nat.le_of_ble_eq_true rfl, Nat.le_of_ble_eq_true rfl⟩ (sp_number_9 X _ _ _ _ i k 0 hI hwi (by omega) (by omega) (by omega)) ?_
    show Ev X k_X2_usesInIcon (29, [some (vr 1), some (vi (i : Int)), some (vi x), some (vi z), some (vi (k : Int))], [vi (g (19 * i + 3 * k + 310))]) (MS I J cc ss) _
    refine ev_n (fr' := (30, [some (vr 1), some (vi (i : Int)), some (vi x), some (vi z), some (vi (k : Int))], [vi x, vi (g (19 * i + 3 * k + 310))])) (S' := MS I J cc ss) 1 rfl ?_
    refine ev_ic (c := .ne) (off := 6) rfl (by decide) (fun (g2 : (g (19 * i + 3 * k + 310)) ≠ x) => ?_) (fun (g2 : ¬ ((g (19 * i + 3 * k + 310)) ≠ x)) => ?_)
    · show Ev X k_X2_usesInIcon (36, [some (vr 1), some (vi (i : Int)), some (vi x), some (vi z), some (vi (k : Int))], []) (MS I J cc ss) _
      refine ev_inc (z := (k : Int) + 1) rfl rfl (by omega) (by omega) (by omega) rfl ?_
      show Ev X k_X2_usesInIcon (39, [some (vr 1), some (vi (i : Int)), some (vi x), some (vi z), some (vi ((k : Int) + 1))], []) (MS I J cc ss) _
      refine ev_n (fr' := (5, [some (vr 1), some (vi (i : Int)), some (vi x), some (vi z), some (vi ((k : Int) + 1))], [])) (S' := MS I J cc ss) 1 rfl ?_
      exact lp_usesInIcon X I J cc ss i x hI hwp hwi hi (k + 1) (z) (by omega) (by rw [cntF_succ, hz]; first | (rw [if_pos (by omega)]) | (rw [if_neg (by omega), Int.add_zero]))
    · show Ev X k_X2_usesInIcon (33, [some (vr 1), some (vi (i : Int)), some (vi x), some (vi z), some (vi (k : Int))], []) (MS I J cc ss) _
      refine ev_inc (z := z + 1) rfl rfl (by omega) (by omega) (by omega) rfl ?_
      show Ev X k_X2_usesInIcon (36, [some (vr 1), some (vi (i : Int)), some (vi x), some (vi (z + 1)), some (vi (k : Int))], []) (MS I J cc ss) _
      refine ev_inc (z := (k : Int) + 1) rfl rfl (by omega) (by omega) (by omega) rfl ?_
      show Ev X k_X2_usesInIcon (39, [some (vr 1), some (vi (i : Int)), some (vi x), some (vi (z + 1)), some (vi ((k : Int) + 1))], []) (MS I J cc ss) _
      refine ev_n (fr' := (5, [some (vr 1), some (vi (i : Int)), some (vi x), some (vi (z + 1)), some (vi ((k : Int) + 1))], [])) (S' := MS I J cc ss) 1 rfl ?_
      exact lp_usesInIcon X I J cc ss i x hI hwp hwi hi (k + 1) (z + 1) (by omega) (by rw [cntF_succ, hz]; first | (rw [if_pos (by omega)]) | (rw [if_neg (by omega), Int.add_zero]))
termination_by 7 - k
decreasing_by all_goals omega
theorem sp_usesInIcon (X : AX) (I J : Nat → Nat → Int) (cc ss : Nat) {g : F1} (i : Nat) (x : Int) (hI : IRep I J 9 g) (hwp : WP g) (hwi : WI g) (hi : (i : Int) < g 308) : Ev X k_X2_usesInIcon (0, [some (vr 1), some (vi (i : Int)), some (vi x), none, none], []) (MS I J cc ss) (fun o T => o = .inl (some (vi (usF g x i))) ∧ T = MS I J cc ss) := by
  refine ev_n (fr' := (5, [some (vr 1), some (vi (i : Int)), some (vi x), some (vi 0), some (vi 0)], [])) (S' := MS I J cc ss) 4 rfl ?_
  exact lp_usesInIcon X I J cc ss i x hI hwp hwi hi 0 0 (by have := (hwi.2.2 i hi).1; omega) rfl
theorem lp_usesOfPart_c (X : AX) (I J : Nat → Nat → Int) (cc ss : Nat) {g : F1} (x : Int) (hI : IRep I J 9 g) (hwp : WP g) (hwi : WI g) (k : Nat) (z : Int) (hk : (k : Int) ≤ g 308) (hz : z = sumF (usF g x) k) : Ev X k_X2_usesOfPart (4, [some (vr 1), some (vi x), some (vi z), some (vi (k : Int))], []) (MS I J cc ss) (fun o T => o = .inl (some (vi (upF g x))) ∧ T = MS I J cc ss) := by
  have hb := sumF_rng (f := usF g x) (b := 6) k (fun i hi => by have := usF_rng g x i; have := hwi.2.2 i (by omega); omega)
  have hb3 := usF_rng g x k
  have hb4 := hwi.2.2 k
  have h8 := hwi.2.1
  refine ev_n (fr' := (9, [some (vr 1), some (vi x), some (vi z), some (vi (k : Int))], [vr 9, vi (k : Int)])) (S' := MS I J cc ss) 3 rfl ?_
  refine ev_cv rfl rfl rfl ⟨Nat.le_of_ble_eq_true rfl, Nat.le_of_ble_eq_true rfl⟩ (sp_rowCount_9 X _ _ _ _  hI) ?_
  show Ev X k_X2_usesOfPart (12, [some (vr 1), some (vi x), some (vi z), some (vi (k : Int))], [vi (g 308), vi (k : Int)]) (MS I J cc ss) _
  refine ev_ic (c := .ge) (off := 18) rfl (by decide) (fun (g1 : (g 308) ≤ (k : Int)) => ?_) (fun (g1 : ¬ ((g 308) ≤ (k : Int))) => ?_)
  · show Ev X k_X2_usesOfPart (30, [some (vr 1), some (vi x), some (vi z), some (vi (k : Int))], []) (MS I J cc ss) _
    refine ev_n (fr' := (31, [some (vr 1), some (vi x), some (vi z), some (vi (k : Int))], [vi z])) (S' := MS I J cc ss) 1 rfl ?_
    refine ev_r rfl rfl rfl ?_
    exact ⟨congrArg (fun z => Sum.inl (some (vi z))) (by rw [hz]; unfold upF; rw [show (g 308).toNat = k by omega]), rfl⟩
  · show Ev X k_X2_usesOfPart (15, [some (vr 1), some (vi x), some (vi z), some (vi (k : Int))], []) (MS I J cc ss) _
    refine ev_n (fr' := (19, [some (vr 1), some (vi x), some (vi z), some (vi (k : Int))], [vi x, vi (k : Int), vr 1, vi z])) (S' := MS I J cc ss) 4 rfl ?_
    refine ev_cv rfl rfl rfl ⟨Nat.le_of_ble_eq_true rfl, Nat.le_of_ble_eq_true rfl⟩ (sp_usesInIcon X _ _ _ _ k x hI hwp hwi (by omega)) ?_
    show Ev X k_X2_usesOfPart (22, [some (vr 1), some (vi x), some (vi z), some (vi (k : Int))], [vi (usF g x k), vi z]) (MS I J cc ss) _
    refine ev_add (z := z + (usF g x k)) rfl (by omega) (by omega) (by omega) ?_
    show Ev X k_X2_usesOfPart (23, [some (vr 1), some (vi x), some (vi z), some (vi (k : Int))], [vi (z + (usF g x k))]) (MS I J cc ss) _
    refine ev_n (fr' := (24, [some (vr 1), some (vi x), some (vi (z + (usF g x k))), some (vi (k : Int))], [])) (S' := MS I J cc ss) 1 rfl ?_
    refine ev_inc (z := (k : Int) + 1) rfl rfl (by omega) (by omega) (by omega) rfl ?_
    show Ev X k_X2_usesOfPart (27, [some (vr 1), some (vi x), some (vi (z + (usF g x k))), some (vi ((k : Int) + 1))], []) (MS I J cc ss) _
    refine ev_n (fr' := (4, [some (vr 1), some (vi x), some (vi (z + (usF g x k))), some (vi ((k : Int) + 1))], [])) (S' := MS I J cc ss) 1 rfl ?_
    exact lp_usesOfPart_c X I J cc ss x hI hwp hwi (k + 1) (z + usF g x k) (by omega) (by rw [hz]; rfl)
termination_by 9 - k
decreasing_by all_goals omega
theorem sp_usesOfPart_c (X : AX) (I J : Nat → Nat → Int) (cc ss : Nat) {g : F1} (x : Int) (hI : IRep I J 9 g) (hwp : WP g) (hwi : WI g) : Ev X k_X2_usesOfPart (0, [some (vr 1), some (vi x), none, none], []) (MS I J cc ss) (fun o T => o = .inl (some (vi (upF g x))) ∧ T = MS I J cc ss) := by
  refine ev_n (fr' := (4, [some (vr 1), some (vi x), some (vi 0), some (vi 0)], [])) (S' := MS I J cc ss) 4 rfl ?_
  exact lp_usesOfPart_c X I J cc ss x hI hwp hwi 0 0 (by have := hwi.1; omega) rfl
theorem lp_iconsWithPart (X : AX) (I J : Nat → Nat → Int) (cc ss : Nat) {g : F1} (x : Int) (hI : IRep I J 9 g) (hwp : WP g) (hwi : WI g) (k : Nat) (z : Int) (hk : (k : Int) ≤ g 308) (hz : z = mkF g x k) : Ev X k_X2_iconsWithPart (4, [some (vr 1), some (vi x), some (vi z), some (vi (k : Int))], []) (MS I J cc ss) (fun o T => o = .inl (some (vi (mkF g x (g 308).toNat))) ∧ T = MS I J cc ss) := by
  have hm := mkF_rng g x k
  have h8 := hwi.2.1
  refine ev_n (fr' := (9, [some (vr 1), some (vi x), some (vi z), some (vi (k : Int))], [vr 9, vi (k : Int)])) (S' := MS I J cc ss) 3 rfl ?_
  refine ev_cv rfl rfl rfl ⟨Nat.le_of_ble_eq_true rfl, Nat.le_of_ble_eq_true rfl⟩ (sp_rowCount_9 X _ _ _ _  hI) ?_
  show Ev X k_X2_iconsWithPart (12, [some (vr 1), some (vi x), some (vi z), some (vi (k : Int))], [vi (g 308), vi (k : Int)]) (MS I J cc ss) _
  refine ev_ic (c := .ge) (off := 24) rfl (by decide) (fun (g1 : (g 308) ≤ (k : Int)) => ?_) (fun (g1 : ¬ ((g 308) ≤ (k : Int))) => ?_)
  · show Ev X k_X2_iconsWithPart (36, [some (vr 1), some (vi x), some (vi z), some (vi (k : Int))], []) (MS I J cc ss) _
    refine ev_n (fr' := (37, [some (vr 1), some (vi x), some (vi z), some (vi (k : Int))], [vi z])) (S' := MS I J cc ss) 1 rfl ?_
    refine ev_r rfl rfl rfl ?_
    exact ⟨congrArg (fun z => Sum.inl (some (vi z))) (by rw [hz, show (g 308).toNat = k by omega]), rfl⟩
  · show Ev X k_X2_iconsWithPart (15, [some (vr 1), some (vi x), some (vi z), some (vi (k : Int))], []) (MS I J cc ss) _
    refine ev_n (fr' := (18, [some (vr 1), some (vi x), some (vi z), some (vi (k : Int))], [vi x, vi (k : Int), vr 1])) (S' := MS I J cc ss) 3 rfl ?_
    refine ev_cv rfl rfl rfl ⟨Nat.le_of_ble_eq_true rfl, Nat.le_of_ble_eq_true rfl⟩ (sp_usesInIcon X _ _ _ _ k x hI hwp hwi (by omega)) ?_
    show Ev X k_X2_iconsWithPart (21, [some (vr 1), some (vi x), some (vi z), some (vi (k : Int))], [vi (usF g x k)]) (MS I J cc ss) _
    refine ev_if (c := .le) (off := 9) rfl (by decide) (fun (g2 : (usF g x k) ≤ 0) => ?_) (fun (g2 : ¬ ((usF g x k) ≤ 0)) => ?_)
    · show Ev X k_X2_iconsWithPart (30, [some (vr 1), some (vi x), some (vi z), some (vi (k : Int))], []) (MS I J cc ss) _
      refine ev_inc (z := (k : Int) + 1) rfl rfl (by omega) (by omega) (by omega) rfl ?_
      show Ev X k_X2_iconsWithPart (33, [some (vr 1), some (vi x), some (vi z), some (vi ((k : Int) + 1))], []) (MS I J cc ss) _
      refine ev_n (fr' := (4, [some (vr 1), some (vi x), some (vi z), some (vi ((k : Int) + 1))], [])) (S' := MS I J cc ss) 1 rfl ?_
      exact lp_iconsWithPart X I J cc ss x hI hwp hwi (k + 1) (z) (by omega) (by rw [hz]; show _ = mkF g x k + (if 0 < usF g x k then pow2 k else 0); first | (rw [if_pos (by omega)]; exact or_a (by omega) hm.1 hm.2) | (rw [if_neg (by omega), Int.add_zero]))
    · show Ev X k_X2_iconsWithPart (24, [some (vr 1), some (vi x), some (vi z), some (vi (k : Int))], []) (MS I J cc ss) _
      refine ev_n (fr' := (30, [some (vr 1), some (vi x), some (vi (opI (· ||| ·) z (opI fShl 1 (k : Int)))), some (vi (k : Int))], [])) (S' := MS I J cc ss) 6 rfl ?_
      refine ev_inc (z := (k : Int) + 1) rfl rfl (by omega) (by omega) (by omega) rfl ?_
      show Ev X k_X2_iconsWithPart (33, [some (vr 1), some (vi x), some (vi (opI (· ||| ·) z (opI fShl 1 (k : Int)))), some (vi ((k : Int) + 1))], []) (MS I J cc ss) _
      refine ev_n (fr' := (4, [some (vr 1), some (vi x), some (vi (opI (· ||| ·) z (opI fShl 1 (k : Int)))), some (vi ((k : Int) + 1))], [])) (S' := MS I J cc ss) 1 rfl ?_
      exact lp_iconsWithPart X I J cc ss x hI hwp hwi (k + 1) ((opI (· ||| ·) z (opI fShl 1 (k : Int)))) (by omega) (by rw [hz]; show _ = mkF g x k + (if 0 < usF g x k then pow2 k else 0); first | (rw [if_pos (by omega)]; exact or_a (by omega) hm.1 hm.2) | (rw [if_neg (by omega), Int.add_zero]))
termination_by 9 - k
decreasing_by all_goals omega
theorem sp_iconsWithPart (X : AX) (I J : Nat → Nat → Int) (cc ss : Nat) {g : F1} (x : Int) (hI : IRep I J 9 g) (hwp : WP g) (hwi : WI g) : Ev X k_X2_iconsWithPart (0, [some (vr 1), some (vi x), none, none], []) (MS I J cc ss) (fun o T => o = .inl (some (vi (mkF g x (g 308).toNat))) ∧ T = MS I J cc ss) := by
  refine ev_n (fr' := (4, [some (vr 1), some (vi x), some (vi 0), some (vi 0)], [])) (S' := MS I J cc ss) 4 rfl ?_
  exact lp_iconsWithPart X I J cc ss x hI hwp hwi 0 0 (by have := hwi.1; omega) rfl
theorem lp_unusedParts (X : AX) (I J : Nat → Nat → Int) (cc ss : Nat) {g : F1} (hP : PRep I J 5 g) (hI : IRep I J 9 g) (hwp : WP g) (hwi : WI g) (k : Nat) (z : Int) (hk : (k : Int) ≤ g 11) (hz : z = sumF (fun p => if upF g (p : Int) = 0 then 1 else 0) k) : Ev X k_X2_unusedParts (4, [some (vr 1), some (vi z), some (vi (k : Int))], []) (MS I J cc ss) (fun o T => o = .inl (some (vi (unF g))) ∧ T = MS I J cc ss) := by
  have hb := ind_rng (f := fun p : Nat => upF g (p : Int) = 0) (fun _ => inferInstance) k
  have h8 := hwp.2.1
  refine ev_n (fr' := (9, [some (vr 1), some (vi z), some (vi (k : Int))], [vr 5, vi (k : Int)])) (S' := MS I J cc ss) 3 rfl ?_
  refine ev_cv rfl rfl rfl ⟨Nat.le_of_ble_eq_true rfl, Nat.le_of_ble_eq_true rfl⟩ (sp_rowCount_5 X _ _ _ _  hP) ?_
  show Ev X k_X2_unusedParts (12, [some (vr 1), some (vi z), some (vi (k : Int))], [vi (g 11), vi (k : Int)]) (MS I J cc ss) _
  refine ev_ic (c := .ge) (off := 20) rfl (by decide) (fun (g1 : (g 11) ≤ (k : Int)) => ?_) (fun (g1 : ¬ ((g 11) ≤ (k : Int))) => ?_)
  · show Ev X k_X2_unusedParts (32, [some (vr 1), some (vi z), some (vi (k : Int))], []) (MS I J cc ss) _
    refine ev_n (fr' := (33, [some (vr 1), some (vi z), some (vi (k : Int))], [vi z])) (S' := MS I J cc ss) 1 rfl ?_
    refine ev_r rfl rfl rfl ?_
    exact ⟨congrArg (fun z => Sum.inl (some (vi z))) (by rw [hz]; unfold unF; rw [show (g 11).toNat = k by omega]), rfl⟩
  · show Ev X k_X2_unusedParts (15, [some (vr 1), some (vi z), some (vi (k : Int))], []) (MS I J cc ss) _
    refine ev_n (fr' := (17, [some (vr 1), some (vi z), some (vi (k : Int))], [vi (k : Int), vr 1])) (S' := MS I J cc ss) 2 rfl ?_
    refine ev_cv rfl rfl rfl ⟨Nat.le_of_ble_eq_true rfl, Nat.le_of_ble_eq_true rfl⟩ (sp_usesOfPart_c X _ _ _ _ (k : Int) hI hwp hwi) ?_
    show Ev X k_X2_unusedParts (20, [some (vr 1), some (vi z), some (vi (k : Int))], [vi (upF g (k : Int))]) (MS I J cc ss) _
    refine ev_if (c := .ne) (off := 6) rfl (by decide) (fun (g2 : (upF g (k : Int)) ≠ 0) => ?_) (fun (g2 : ¬ ((upF g (k : Int)) ≠ 0)) => ?_)
    · show Ev X k_X2_unusedParts (26, [some (vr 1), some (vi z), some (vi (k : Int))], []) (MS I J cc ss) _
      refine ev_inc (z := (k : Int) + 1) rfl rfl (by omega) (by omega) (by omega) rfl ?_
      show Ev X k_X2_unusedParts (29, [some (vr 1), some (vi z), some (vi ((k : Int) + 1))], []) (MS I J cc ss) _
      refine ev_n (fr' := (4, [some (vr 1), some (vi z), some (vi ((k : Int) + 1))], [])) (S' := MS I J cc ss) 1 rfl ?_
      exact lp_unusedParts X I J cc ss hP hI hwp hwi (k + 1) (z) (by omega) (by rw [hz]; show _ = sumF _ k + (if upF g (k : Int) = 0 then 1 else 0); first | (rw [if_pos (by omega)]) | (rw [if_neg (by omega), Int.add_zero]))
    · show Ev X k_X2_unusedParts (23, [some (vr 1), some (vi z), some (vi (k : Int))], []) (MS I J cc ss) _
      refine ev_inc (z := z + 1) rfl rfl (by omega) (by omega) (by omega) rfl ?_
      show Ev X k_X2_unusedParts (26, [some (vr 1), some (vi (z + 1)), some (vi (k : Int))], []) (MS I J cc ss) _
      refine ev_inc (z := (k : Int) + 1) rfl rfl (by omega) (by omega) (by omega) rfl ?_
      show Ev X k_X2_unusedParts (29, [some (vr 1), some (vi (z + 1)), some (vi ((k : Int) + 1))], []) (MS I J cc ss) _
      refine ev_n (fr' := (4, [some (vr 1), some (vi (z + 1)), some (vi ((k : Int) + 1))], [])) (S' := MS I J cc ss) 1 rfl ?_
      exact lp_unusedParts X I J cc ss hP hI hwp hwi (k + 1) (z + 1) (by omega) (by rw [hz]; show _ = sumF _ k + (if upF g (k : Int) = 0 then 1 else 0); first | (rw [if_pos (by omega)]) | (rw [if_neg (by omega), Int.add_zero]))
termination_by 9 - k
decreasing_by all_goals omega
theorem sp_unusedParts (X : AX) (I J : Nat → Nat → Int) (cc ss : Nat) {g : F1} (hP : PRep I J 5 g) (hI : IRep I J 9 g) (hwp : WP g) (hwi : WI g) : Ev X k_X2_unusedParts (0, [some (vr 1), none, none], []) (MS I J cc ss) (fun o T => o = .inl (some (vi (unF g))) ∧ T = MS I J cc ss) := by
  refine ev_n (fr' := (4, [some (vr 1), some (vi 0), some (vi 0)], [])) (S' := MS I J cc ss) 4 rfl ?_
  exact lp_unusedParts X I J cc ss hP hI hwp hwi 0 0 (by have := hwp.1; omega) rfl
theorem li_uop (X : AX) (I J : Nat → Nat → Int) (cc ss : Nat) {Q : (Option AV ⊕ Nat) → AS → Prop} {g : F1} (x : Int) (hg : J 136 = g) (hwp : WP g) (hwi : WI g) (m : Int) (i : Nat) (hi : (i : Int) < g 308) (hm : 0 ≤ m ∧ m ≤ 1000) (u : Nat) (z : Int) (hu : (u : Int) ≤ g (19 * i + 309)) (hz : z = m + cntF (fun u => g (19 * i + 3 * u + 310)) x u) (K : ∀ (u : Nat), (u : Int) = g (19 * i + 309) → Ev X k_X9_usesOfPart (57, [some (vr 135), some (vi x), some (vi (m + usF g x i)), some (vi (i : Int)), some (vi (u : Int))], []) (MS I J cc ss) Q) : Ev X k_X9_usesOfPart (21, [some (vr 135), some (vi x), some (vi z), some (vi (i : Int)), some (vi (u : Int))], []) (MS I J cc ss) (Q) := by
  have hb := cntF_rng (fun u => g (19 * i + 3 * u + 310)) x u
  have hb2 := (hwi.2.2 i hi).2.1
  refine ev_n (fr' := (25, [some (vr 135), some (vi x), some (vi z), some (vi (i : Int)), some (vi (u : Int))], [vi (i : Int), vr 135, vi (u : Int)])) (S' := MS I J cc ss) 3 rfl ?_
  refine ev_cv rfl rfl rfl ⟨Nat.le_of_ble_eq_true rfl, Nat.le_of_ble_eq_true rfl⟩ (sp_usesOf_r X _ _ _ _ i hg hwi (by omega)) ?_
  show Ev X k_X9_usesOfPart (28, [some (vr 135), some (vi x), some (vi z), some (vi (i : Int)), some (vi (u : Int))], [vi (g (19 * i + 309)), vi (u : Int)]) (MS I J cc ss) _
  refine ev_ic (c := .ge) (off := 29) rfl (by decide) (fun (g1 : (g (19 * i + 309)) ≤ (u : Int)) => ?_) (fun (g1 : ¬ ((g (19 * i + 309)) ≤ (u : Int))) => ?_)
  · show Ev X k_X9_usesOfPart (57, [some (vr 135), some (vi x), some (vi z), some (vi (i : Int)), some (vi (u : Int))], []) (MS I J cc ss) _
    rw [hz, show cntF (fun u => g (19 * i + 3 * u + 310)) x u = usF g x i by unfold usF; rw [show (g (19 * i + 309)).toNat = u by omega]]
    exact K u (by omega)
  · show Ev X k_X9_usesOfPart (31, [some (vr 135), some (vi x), some (vi z), some (vi (i : Int)), some (vi (u : Int))], []) (MS I J cc ss) _
    refine ev_n (fr' := (37, [some (vr 135), some (vi x), some (vi z), some (vi (i : Int)), some (vi (u : Int))], [vi 0, vi (u : Int), vi (i : Int), vr 135, vi z])) (S' := MS I J cc ss) 5 rfl ?_
    refine ev_cv rfl rfl rfl ⟨Nat.le_of_ble_eq_true rfl, Nat.le_of_ble_eq_true rfl⟩ (sp_ofUse_r X _ _ _ _ i u 0 hg hwp hwi (by omega) (by omega) (by omega)) ?_
    show Ev X k_X9_usesOfPart (40, [some (vr 135), some (vi x), some (vi z), some (vi (i : Int)), some (vi (u : Int))], [vi (g (19 * i + 3 * u + 310)), vi z]) (MS I J cc ss) _
    refine ev_n (fr' := (41, [some (vr 135), some (vi x), some (vi z), some (vi (i : Int)), some (vi (u : Int))], [vi x, vi (g (19 * i + 3 * u + 310)), vi z])) (S' := MS I J cc ss) 1 rfl ?_
    refine ev_ic (c := .ne) (off := 7) rfl (by decide) (fun (g2 : (g (19 * i + 3 * u + 310)) ≠ x) => ?_) (fun (g2 : ¬ ((g (19 * i + 3 * u + 310)) ≠ x)) => ?_)
    · show Ev X k_X9_usesOfPart (48, [some (vr 135), some (vi x), some (vi z), some (vi (i : Int)), some (vi (u : Int))], [vi z]) (MS I J cc ss) _
      refine ev_n (fr' := (49, [some (vr 135), some (vi x), some (vi z), some (vi (i : Int)), some (vi (u : Int))], [vi 0, vi z])) (S' := MS I J cc ss) 1 rfl ?_
      refine ev_add (z := z) rfl (by omega) (by omega) (by omega) ?_
      show Ev X k_X9_usesOfPart (50, [some (vr 135), some (vi x), some (vi z), some (vi (i : Int)), some (vi (u : Int))], [vi z]) (MS I J cc ss) _
      refine ev_n (fr' := (51, [some (vr 135), some (vi x), some (vi z), some (vi (i : Int)), some (vi (u : Int))], [])) (S' := MS I J cc ss) 1 rfl ?_
      refine ev_inc (z := (u : Int) + 1) rfl rfl (by omega) (by omega) (by omega) rfl ?_
      show Ev X k_X9_usesOfPart (54, [some (vr 135), some (vi x), some (vi z), some (vi (i : Int)), some (vi ((u : Int) + 1))], []) (MS I J cc ss) _
      refine ev_n (fr' := (21, [some (vr 135), some (vi x), some (vi z), some (vi (i : Int)), some (vi ((u : Int) + 1))], [])) (S' := MS I J cc ss) 1 rfl ?_
      exact li_uop X I J cc ss x hg hwp hwi m i hi hm (u + 1) (z) (by omega) (by rw [cntF_succ, hz]; first | (rw [if_pos (by omega)]; omega) | (rw [if_neg (by omega)]; omega)) K
    · show Ev X k_X9_usesOfPart (44, [some (vr 135), some (vi x), some (vi z), some (vi (i : Int)), some (vi (u : Int))], [vi z]) (MS I J cc ss) _
      refine ev_n (fr' := (49, [some (vr 135), some (vi x), some (vi z), some (vi (i : Int)), some (vi (u : Int))], [vi 1, vi z])) (S' := MS I J cc ss) 2 rfl ?_
      refine ev_add (z := z + 1) rfl (by omega) (by omega) (by omega) ?_
      show Ev X k_X9_usesOfPart (50, [some (vr 135), some (vi x), some (vi z), some (vi (i : Int)), some (vi (u : Int))], [vi (z + 1)]) (MS I J cc ss) _
      refine ev_n (fr' := (51, [some (vr 135), some (vi x), some (vi (z + 1)), some (vi (i : Int)), some (vi (u : Int))], [])) (S' := MS I J cc ss) 1 rfl ?_
      refine ev_inc (z := (u : Int) + 1) rfl rfl (by omega) (by omega) (by omega) rfl ?_
      show Ev X k_X9_usesOfPart (54, [some (vr 135), some (vi x), some (vi (z + 1)), some (vi (i : Int)), some (vi ((u : Int) + 1))], []) (MS I J cc ss) _
      refine ev_n (fr' := (21, [some (vr 135), some (vi x), some (vi (z + 1)), some (vi (i : Int)), some (vi ((u : Int) + 1))], [])) (S' := MS I J cc ss) 1 rfl ?_
      exact li_uop X I J cc ss x hg hwp hwi m i hi hm (u + 1) (z + 1) (by omega) (by rw [cntF_succ, hz]; first | (rw [if_pos (by omega)]; omega) | (rw [if_neg (by omega)]; omega)) K
termination_by 7 - u
decreasing_by all_goals omega
theorem lp_uop (X : AX) (I J : Nat → Nat → Int) (cc ss : Nat) {g : F1} (x : Int) (hg : J 136 = g) (hwp : WP g) (hwi : WI g) (k : Nat) (z : Int) (v4 : Option AV) (hk : (k : Int) ≤ g 308) (hz : z = sumF (usF g x) k) : Ev X k_X9_usesOfPart (4, [some (vr 135), some (vi x), some (vi z), some (vi (k : Int)), v4], []) (MS I J cc ss) (fun o T => o = .inl (some (vi (upF g x))) ∧ T = MS I J cc ss) := by
  have hb := sumF_rng (f := usF g x) (b := 6) k (fun i hi => by have := usF_rng g x i; have := hwi.2.2 i (by omega); omega)
  have h8 := hwi.2.1
  refine ev_n (fr' := (13, [some (vr 135), some (vi x), some (vi z), some (vi (k : Int)), v4], [vi 308, vr 136, vl (k : Int)])) (S' := MS I J cc ss) 5 rfl ?_
  refine ev_laN (j := 308) (z := (g 308)) rfl rfl (by omega) (by omega) (congrFun hg _) ?_
  show Ev X k_X9_usesOfPart (14, [some (vr 135), some (vi x), some (vi z), some (vi (k : Int)), v4], [vl (g 308), vl (k : Int)]) (MS I J cc ss) _
  refine ev_lc (c := .ge) (off := 48) rfl rfl (by decide) (fun (g1 : (g 308) ≤ (k : Int)) => ?_) (fun (g1 : ¬ ((g 308) ≤ (k : Int))) => ?_)
  · show Ev X k_X9_usesOfPart (63, [some (vr 135), some (vi x), some (vi z), some (vi (k : Int)), v4], []) (MS I J cc ss) _
    refine ev_n (fr' := (64, [some (vr 135), some (vi x), some (vi z), some (vi (k : Int)), v4], [vi z])) (S' := MS I J cc ss) 1 rfl ?_
    refine ev_r rfl rfl rfl ?_
    exact ⟨congrArg (fun z => Sum.inl (some (vi z))) (by rw [hz]; unfold upF; rw [show (g 308).toNat = k by omega]), rfl⟩
  · show Ev X k_X9_usesOfPart (18, [some (vr 135), some (vi x), some (vi z), some (vi (k : Int)), v4], []) (MS I J cc ss) _
    refine ev_n (fr' := (21, [some (vr 135), some (vi x), some (vi z), some (vi (k : Int)), some (vi 0)], [])) (S' := MS I J cc ss) 2 rfl ?_
    refine li_uop X I J cc ss x hg hwp hwi z k (by omega) (by omega) 0 z (by have := (hwi.2.2 k (by omega)).1; omega) (by show z = z + 0; omega) (fun u hu => ?_)
    show Ev X k_X9_usesOfPart (57, [some (vr 135), some (vi x), some (vi (z + usF g x k)), some (vi (k : Int)), some (vi (u : Int))], []) (MS I J cc ss) _
    refine ev_inc (z := (k : Int) + 1) rfl rfl (by omega) (by omega) (by omega) rfl ?_
    show Ev X k_X9_usesOfPart (60, [some (vr 135), some (vi x), some (vi (z + usF g x k)), some (vi ((k : Int) + 1)), some (vi (u : Int))], []) (MS I J cc ss) _
    refine ev_n (fr' := (4, [some (vr 135), some (vi x), some (vi (z + usF g x k)), some (vi ((k : Int) + 1)), some (vi (u : Int))], [])) (S' := MS I J cc ss) 1 rfl ?_
    exact lp_uop X I J cc ss x hg hwp hwi (k + 1) _ _ (by omega) (by rw [hz]; rfl)
termination_by 9 - k
decreasing_by all_goals omega
theorem sp_usesOfPart_r (X : AX) (I J : Nat → Nat → Int) (cc ss : Nat) {g : F1} (x : Int) (hg : J 136 = g) (hwp : WP g) (hwi : WI g) : Ev X k_X9_usesOfPart (0, [some (vr 135), some (vi x), none, none, none], []) (MS I J cc ss) (fun o T => o = .inl (some (vi (upF g x))) ∧ T = MS I J cc ss) := by
  refine ev_n (fr' := (4, [some (vr 135), some (vi x), some (vi 0), some (vi 0), none], [])) (S' := MS I J cc ss) 4 rfl ?_
  exact lp_uop X I J cc ss x hg hwp hwi 0 0 _ (by have := hwi.1; omega) rfl
theorem li_ub (X : AX) (I J : Nat → Nat → Int) (cc ss : Nat) {Q : (Option AV ⊕ Nat) → AS → Prop} {g : F1} (x : Int) (hg : J 136 = g) (hwp : WP g) (hwi : WI g) (m : Int) (i : Nat) (hi : (i : Int) < g 308) (hm : 0 ≤ m ∧ m < pow2 i) (u : Nat) (z : Int) (hu : (u : Int) ≤ g (19 * i + 309)) (hz : z = (if 0 < cntF (fun u => g (19 * i + 3 * u + 310)) x u then m + pow2 i else m)) (K : ∀ (u : Nat), (u : Int) = g (19 * i + 309) → Ev X k_X9_usedBy (59, [some (vr 135), some (vi x), some (vi (if 0 < usF g x i then m + pow2 i else m)), some (vi (i : Int)), some (vi (u : Int))], []) (MS I J cc ss) Q) : Ev X k_X9_usedBy (21, [some (vr 135), some (vi x), some (vi z), some (vi (i : Int)), some (vi (u : Int))], []) (MS I J cc ss) (Q) := by
  have hb := cntF_rng (fun u => g (19 * i + 3 * u + 310)) x u
  have hb2 := (hwi.2.2 i hi).2.1
  have h8 := hwi.2.1
  refine ev_n (fr' := (25, [some (vr 135), some (vi x), some (vi z), some (vi (i : Int)), some (vi (u : Int))], [vi (i : Int), vr 135, vi (u : Int)])) (S' := MS I J cc ss) 3 rfl ?_
  refine ev_cv rfl rfl rfl ⟨Nat.le_of_ble_eq_true rfl, Nat.le_of_ble_eq_true rfl⟩ (sp_usesOf_r X _ _ _ _ i hg hwi (by omega)) ?_
  show Ev X k_X9_usedBy (28, [some (vr 135), some (vi x), some (vi z), some (vi (i : Int)), some (vi (u : Int))], [vi (g (19 * i + 309)), vi (u : Int)]) (MS I J cc ss) _
  refine ev_ic (c := .ge) (off := 31) rfl (by decide) (fun (g1 : (g (19 * i + 309)) ≤ (u : Int)) => ?_) (fun (g1 : ¬ ((g (19 * i + 309)) ≤ (u : Int))) => ?_)
  · show Ev X k_X9_usedBy (59, [some (vr 135), some (vi x), some (vi z), some (vi (i : Int)), some (vi (u : Int))], []) (MS I J cc ss) _
    rw [hz, show cntF (fun u => g (19 * i + 3 * u + 310)) x u = usF g x i by unfold usF; rw [show (g (19 * i + 309)).toNat = u by omega]]
    exact K u (by omega)
  · show Ev X k_X9_usedBy (31, [some (vr 135), some (vi x), some (vi z), some (vi (i : Int)), some (vi (u : Int))], []) (MS I J cc ss) _
    refine ev_n (fr' := (37, [some (vr 135), some (vi x), some (vi z), some (vi (i : Int)), some (vi (u : Int))], [vi 0, vi (u : Int), vi (i : Int), vr 135, vi z])) (S' := MS I J cc ss) 5 rfl ?_
    refine ev_cv rfl rfl rfl ⟨Nat.le_of_ble_eq_true rfl, Nat.le_of_ble_eq_true rfl⟩ (sp_ofUse_r X _ _ _ _ i u 0 hg hwp hwi (by omega) (by omega) (by omega)) ?_
    show Ev X k_X9_usedBy (40, [some (vr 135), some (vi x), some (vi z), some (vi (i : Int)), some (vi (u : Int))], [vi (g (19 * i + 3 * u + 310)), vi z]) (MS I J cc ss) _
    refine ev_n (fr' := (41, [some (vr 135), some (vi x), some (vi z), some (vi (i : Int)), some (vi (u : Int))], [vi x, vi (g (19 * i + 3 * u + 310)), vi z])) (S' := MS I J cc ss) 1 rfl ?_
    refine ev_ic (c := .ne) (off := 9) rfl (by decide) (fun (g2 : (g (19 * i + 3 * u + 310)) ≠ x) => ?_) (fun (g2 : ¬ ((g (19 * i + 3 * u + 310)) ≠ x)) => ?_)
    · show Ev X k_X9_usedBy (50, [some (vr 135), some (vi x), some (vi z), some (vi (i : Int)), some (vi (u : Int))], [vi z]) (MS I J cc ss) _
      refine ev_n (fr' := (53, [some (vr 135), some (vi x), some (vi (opI (· ||| ·) z 0)), some (vi (i : Int)), some (vi (u : Int))], [])) (S' := MS I J cc ss) 3 rfl ?_
      refine ev_inc (z := (u : Int) + 1) rfl rfl (by omega) (by omega) (by omega) rfl ?_
      show Ev X k_X9_usedBy (56, [some (vr 135), some (vi x), some (vi (opI (· ||| ·) z 0)), some (vi (i : Int)), some (vi ((u : Int) + 1))], []) (MS I J cc ss) _
      refine ev_n (fr' := (21, [some (vr 135), some (vi x), some (vi (opI (· ||| ·) z 0)), some (vi (i : Int)), some (vi ((u : Int) + 1))], [])) (S' := MS I J cc ss) 1 rfl ?_
      refine li_ub X I J cc ss x hg hwp hwi m i hi hm (u + 1) _ (by omega) ?_ K
      have hp := pow2_rng (i := i) (by omega)
      rw [cntF_succ, hz]
      by_cases e : 0 < cntF (fun u => g (19 * i + 3 * u + 310)) x u
      · rw [if_pos e, if_pos (by first | (rw [if_pos (by omega)]; omega) | (rw [if_neg (by omega)]; omega))]
        exact or_c (by omega) (by omega)
      · rw [if_neg e]
        rw [if_neg (by rw [if_neg (by omega)]; omega)]; exact or_c (by omega) (by omega)
    · show Ev X k_X9_usedBy (44, [some (vr 135), some (vi x), some (vi z), some (vi (i : Int)), some (vi (u : Int))], [vi z]) (MS I J cc ss) _
      refine ev_n (fr' := (53, [some (vr 135), some (vi x), some (vi (opI (· ||| ·) z (opI fShl 1 (i : Int)))), some (vi (i : Int)), some (vi (u : Int))], [])) (S' := MS I J cc ss) 6 rfl ?_
      refine ev_inc (z := (u : Int) + 1) rfl rfl (by omega) (by omega) (by omega) rfl ?_
      show Ev X k_X9_usedBy (56, [some (vr 135), some (vi x), some (vi (opI (· ||| ·) z (opI fShl 1 (i : Int)))), some (vi (i : Int)), some (vi ((u : Int) + 1))], []) (MS I J cc ss) _
      refine ev_n (fr' := (21, [some (vr 135), some (vi x), some (vi (opI (· ||| ·) z (opI fShl 1 (i : Int)))), some (vi (i : Int)), some (vi ((u : Int) + 1))], [])) (S' := MS I J cc ss) 1 rfl ?_
      refine li_ub X I J cc ss x hg hwp hwi m i hi hm (u + 1) _ (by omega) ?_ K
      have hp := pow2_rng (i := i) (by omega)
      rw [cntF_succ, hz]
      by_cases e : 0 < cntF (fun u => g (19 * i + 3 * u + 310)) x u
      · rw [if_pos e, if_pos (by first | (rw [if_pos (by omega)]; omega) | (rw [if_neg (by omega)]; omega))]
        exact or_b (by omega) hm.1 hm.2
      · rw [if_neg e]
        rw [if_pos (by rw [if_pos (by omega)]; omega)]; exact or_a (by omega) hm.1 hm.2
termination_by 7 - u
decreasing_by all_goals omega
theorem lp_ub (X : AX) (I J : Nat → Nat → Int) (cc ss : Nat) {g : F1} (x : Int) (hg : J 136 = g) (hwp : WP g) (hwi : WI g) (k : Nat) (z : Int) (v4 : Option AV) (hk : (k : Int) ≤ g 308) (hz : z = mkF g x k) : Ev X k_X9_usedBy (4, [some (vr 135), some (vi x), some (vi z), some (vi (k : Int)), v4], []) (MS I J cc ss) (fun o T => o = .inl (some (vi (mkF g x (g 308).toNat))) ∧ T = MS I J cc ss) := by
  have h8 := hwi.2.1
  refine ev_n (fr' := (13, [some (vr 135), some (vi x), some (vi z), some (vi (k : Int)), v4], [vi 308, vr 136, vl (k : Int)])) (S' := MS I J cc ss) 5 rfl ?_
  refine ev_laN (j := 308) (z := (g 308)) rfl rfl (by omega) (by omega) (congrFun hg _) ?_
  show Ev X k_X9_usedBy (14, [some (vr 135), some (vi x), some (vi z), some (vi (k : Int)), v4], [vl (g 308), vl (k : Int)]) (MS I J cc ss) _
  refine ev_lc (c := .ge) (off := 50) rfl rfl (by decide) (fun (g1 : (g 308) ≤ (k : Int)) => ?_) (fun (g1 : ¬ ((g 308) ≤ (k : Int))) => ?_)
  · show Ev X k_X9_usedBy (65, [some (vr 135), some (vi x), some (vi z), some (vi (k : Int)), v4], []) (MS I J cc ss) _
    refine ev_n (fr' := (66, [some (vr 135), some (vi x), some (vi z), some (vi (k : Int)), v4], [vi z])) (S' := MS I J cc ss) 1 rfl ?_
    refine ev_r rfl rfl rfl ?_
    exact ⟨congrArg (fun z => Sum.inl (some (vi z))) (by rw [hz, show (g 308).toNat = k by omega]), rfl⟩
  · show Ev X k_X9_usedBy (18, [some (vr 135), some (vi x), some (vi z), some (vi (k : Int)), v4], []) (MS I J cc ss) _
    refine ev_n (fr' := (21, [some (vr 135), some (vi x), some (vi z), some (vi (k : Int)), some (vi 0)], [])) (S' := MS I J cc ss) 2 rfl ?_
    refine li_ub X I J cc ss x hg hwp hwi z k (by omega) (by rw [hz]; exact mkF_rng g x k) 0 z (by have := (hwi.2.2 k (by omega)).1; omega) (if_neg (by show ¬ (0 < (0 : Int)); omega)).symm (fun u hu => ?_)
    show Ev X k_X9_usedBy (59, [some (vr 135), some (vi x), some (vi (if 0 < usF g x k then z + pow2 k else z)), some (vi (k : Int)), some (vi (u : Int))], []) (MS I J cc ss) _
    refine ev_inc (z := (k : Int) + 1) rfl rfl (by omega) (by omega) (by omega) rfl ?_
    show Ev X k_X9_usedBy (62, [some (vr 135), some (vi x), some (vi (if 0 < usF g x k then z + pow2 k else z)), some (vi ((k : Int) + 1)), some (vi (u : Int))], []) (MS I J cc ss) _
    refine ev_n (fr' := (4, [some (vr 135), some (vi x), some (vi (if 0 < usF g x k then z + pow2 k else z)), some (vi ((k : Int) + 1)), some (vi (u : Int))], [])) (S' := MS I J cc ss) 1 rfl ?_
    exact lp_ub X I J cc ss x hg hwp hwi (k + 1) _ _ (by omega) (by rw [hz]; show _ = mkF g x k + (if 0 < usF g x k then pow2 k else 0); split <;> omega)
termination_by 9 - k
decreasing_by all_goals omega
theorem sp_usedBy (X : AX) (I J : Nat → Nat → Int) (cc ss : Nat) {g : F1} (x : Int) (hg : J 136 = g) (hwp : WP g) (hwi : WI g) : Ev X k_X9_usedBy (0, [some (vr 135), some (vi x), none, none, none], []) (MS I J cc ss) (fun o T => o = .inl (some (vi (mkF g x (g 308).toNat))) ∧ T = MS I J cc ss) := by
  refine ev_n (fr' := (4, [some (vr 135), some (vi x), some (vi 0), some (vi 0), none], [])) (S' := MS I J cc ss) 4 rfl ?_
  exact lp_ub X I J cc ss x hg hwp hwi 0 0 _ (by have := hwi.1; omega) rfl
theorem lp_unused_r (X : AX) (I J : Nat → Nat → Int) (cc ss : Nat) {g : F1} (hg : J 136 = g) (hwp : WP g) (hwi : WI g) (k : Nat) (z : Int) (hk : (k : Int) ≤ g 11) (hz : z = sumF (fun p => if upF g (p : Int) = 0 then 1 else 0) k) : Ev X k_X9_unused (4, [some (vr 135), some (vi z), some (vi (k : Int))], []) (MS I J cc ss) (fun o T => o = .inl (some (vi (unF g))) ∧ T = MS I J cc ss) := by
  have hb := ind_rng (f := fun p : Nat => upF g (p : Int) = 0) (fun _ => inferInstance) k
  have h8 := hwp.2.1
  refine ev_n (fr' := (12, [some (vr 135), some (vi z), some (vi (k : Int))], [vi 11, vr 136, vl (k : Int)])) (S' := MS I J cc ss) 5 rfl ?_
  refine ev_laN (j := 11) (z := (g 11)) rfl rfl (by omega) (by omega) (congrFun hg _) ?_
  show Ev X k_X9_unused (13, [some (vr 135), some (vi z), some (vi (k : Int))], [vl (g 11), vl (k : Int)]) (MS I J cc ss) _
  refine ev_lc (c := .ge) (off := 25) rfl rfl (by decide) (fun (g1 : (g 11) ≤ (k : Int)) => ?_) (fun (g1 : ¬ ((g 11) ≤ (k : Int))) => ?_)
  · show Ev X k_X9_unused (39, [some (vr 135), some (vi z), some (vi (k : Int))], []) (MS I J cc ss) _
    refine ev_n (fr' := (40, [some (vr 135), some (vi z), some (vi (k : Int))], [vi z])) (S' := MS I J cc ss) 1 rfl ?_
    refine ev_r rfl rfl rfl ?_
    exact ⟨congrArg (fun z => Sum.inl (some (vi z))) (by rw [hz]; unfold unF; rw [show (g 11).toNat = k by omega]), rfl⟩
  · show Ev X k_X9_unused (17, [some (vr 135), some (vi z), some (vi (k : Int))], []) (MS I J cc ss) _
    refine ev_n (fr' := (20, [some (vr 135), some (vi z), some (vi (k : Int))], [vi (k : Int), vr 135, vi z])) (S' := MS I J cc ss) 3 rfl ?_
    refine ev_cv rfl rfl rfl ⟨Nat.le_of_ble_eq_true rfl, Nat.le_of_ble_eq_true rfl⟩ (sp_usedBy X _ _ _ _ (k : Int) hg hwp hwi) ?_
    show Ev X k_X9_unused (23, [some (vr 135), some (vi z), some (vi (k : Int))], [vi (mkF g (k : Int) (g 308).toNat), vi z]) (MS I J cc ss) _
    refine ev_if (c := .ne) (off := 7) rfl (by decide) (fun (g2 : (mkF g (k : Int) (g 308).toNat) ≠ 0) => ?_) (fun (g2 : ¬ ((mkF g (k : Int) (g 308).toNat) ≠ 0)) => ?_)
    · show Ev X k_X9_unused (30, [some (vr 135), some (vi z), some (vi (k : Int))], [vi z]) (MS I J cc ss) _
      refine ev_n (fr' := (31, [some (vr 135), some (vi z), some (vi (k : Int))], [vi 0, vi z])) (S' := MS I J cc ss) 1 rfl ?_
      refine ev_add (z := z) rfl (by omega) (by omega) (by omega) ?_
      show Ev X k_X9_unused (32, [some (vr 135), some (vi z), some (vi (k : Int))], [vi z]) (MS I J cc ss) _
      refine ev_n (fr' := (33, [some (vr 135), some (vi z), some (vi (k : Int))], [])) (S' := MS I J cc ss) 1 rfl ?_
      refine ev_inc (z := (k : Int) + 1) rfl rfl (by omega) (by omega) (by omega) rfl ?_
      show Ev X k_X9_unused (36, [some (vr 135), some (vi z), some (vi ((k : Int) + 1))], []) (MS I J cc ss) _
      refine ev_n (fr' := (4, [some (vr 135), some (vi z), some (vi ((k : Int) + 1))], [])) (S' := MS I J cc ss) 1 rfl ?_
      exact lp_unused_r X I J cc ss hg hwp hwi (k + 1) (z) (by omega) (by rw [hz]; show _ = sumF _ k + (if upF g (k : Int) = 0 then 1 else 0); have hmu := mk_up hwi (k : Int); first | (rw [if_pos (by omega)]) | (rw [if_neg (by omega), Int.add_zero]))
    · show Ev X k_X9_unused (26, [some (vr 135), some (vi z), some (vi (k : Int))], [vi z]) (MS I J cc ss) _
      refine ev_n (fr' := (31, [some (vr 135), some (vi z), some (vi (k : Int))], [vi 1, vi z])) (S' := MS I J cc ss) 2 rfl ?_
      refine ev_add (z := z + 1) rfl (by omega) (by omega) (by omega) ?_
      show Ev X k_X9_unused (32, [some (vr 135), some (vi z), some (vi (k : Int))], [vi (z + 1)]) (MS I J cc ss) _
      refine ev_n (fr' := (33, [some (vr 135), some (vi (z + 1)), some (vi (k : Int))], [])) (S' := MS I J cc ss) 1 rfl ?_
      refine ev_inc (z := (k : Int) + 1) rfl rfl (by omega) (by omega) (by omega) rfl ?_
      show Ev X k_X9_unused (36, [some (vr 135), some (vi (z + 1)), some (vi ((k : Int) + 1))], []) (MS I J cc ss) _
      refine ev_n (fr' := (4, [some (vr 135), some (vi (z + 1)), some (vi ((k : Int) + 1))], [])) (S' := MS I J cc ss) 1 rfl ?_
      exact lp_unused_r X I J cc ss hg hwp hwi (k + 1) (z + 1) (by omega) (by rw [hz]; show _ = sumF _ k + (if upF g (k : Int) = 0 then 1 else 0); have hmu := mk_up hwi (k : Int); first | (rw [if_pos (by omega)]) | (rw [if_neg (by omega), Int.add_zero]))
termination_by 9 - k
decreasing_by all_goals omega
theorem sp_unused_r (X : AX) (I J : Nat → Nat → Int) (cc ss : Nat) {g : F1} (hg : J 136 = g) (hwp : WP g) (hwi : WI g) : Ev X k_X9_unused (0, [some (vr 135), none, none], []) (MS I J cc ss) (fun o T => o = .inl (some (vi (unF g))) ∧ T = MS I J cc ss) := by
  refine ev_n (fr' := (4, [some (vr 135), some (vi 0), some (vi 0)], [])) (S' := MS I J cc ss) 4 rfl ?_
  exact lp_unused_r X I J cc ss hg hwp hwi 0 0 (by have := hwp.1; omega) rfl
