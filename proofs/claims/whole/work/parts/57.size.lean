/-! SIZES CHANGED (printed by gen/g57.py) -/
/-- a size more at place pl -/
def insF (g : F1) (pl n : Nat) (px ex : Int) : F1 := fun k => if k = 0 then (n : Int) + 1 else if k = 2 * pl + 1 then px else if k = 2 * pl + 2 then ex else if 2 * pl + 3 ≤ k ∧ k < 2 * n + 3 then g (k - 2) else g k
/-- size s away, of n -/
def remF (g : F1) (s n : Nat) : F1 := fun k => if k = 0 then ((n - 1 : Nat) : Int) else if 2 * s + 1 ≤ k ∧ k < 2 * (n - 1) + 1 then g (k + 2) else g k
/-- a row more -/
def rowF (g : F1) (nI nm cn n : Nat) (x : Int) : F1 := fun k => if k = nI then (n : Int) + 1 else if k = nm then x else if k = cn then 0 else g k
theorem SRep.ext {I : F2} {b : Nat} {g : F1} (h : SRep I b g) {k : Nat} {x : Int} (hk : (k : Int) < g 0) : SRep (up2 I (b + 3) k x) b (upd1 g (2 * k + 2) x) := by
  have e0 : upd1 g (2 * k + 2) x 0 = g 0 := upd1_ne _ _ _ (by omega)
  refine ⟨by rw [up2_row _ _ _ _ (by omega), e0]; exact h.1, fun j hj => ?_⟩
  rw [e0] at hj
  have h9 := h.2 j hj
  refine ⟨by rw [up2_row _ _ _ _ (by omega), upd1_ne _ _ _ (by omega)]; exact h9.1, ?_⟩
  by_cases e : j = k
  · rw [e, up2_same, upd1_same]
  · rw [up2_ne2 _ _ _ _ e, upd1_ne _ _ _ (by omega)]; exact h9.2
theorem ins_uniq {g : F1} {p1 p2 n : Nat} {x : Int} (hw : WS g) (hn : g 0 = (n : Int)) (hne : ∀ j : Nat, j < n → g (2 * j + 1) ≠ x) (a1 : p1 ≤ n) (a2 : p1 = 0 ∨ g (2 * (p1 - 1) + 1) ≤ x) (a3 : ∀ j, p1 ≤ j → j < n → x < g (2 * j + 1)) (b1 : p2 ≤ n) (b2 : ∀ j, j < p2 → g (2 * j + 1) < x) (b3 : p2 = n ∨ x ≤ g (2 * p2 + 1)) : p1 = p2 := by
  have hsort : ∀ d i : Nat, ((i + d + 1 : Nat) : Int) < (n : Int) → g (2 * i + 1) < g (2 * (i + d + 1) + 1) := by
    intro d
    induction d with
    | zero => intro i hi; have := hw.2.2.2 i (by omega); rw [show 2 * (i + 0 + 1) + 1 = 2 * i + 3 by omega]; exact this
    | succ d ih =>
      intro i hi
      have h1 := ih i (by omega)
      have h2 := hw.2.2.2 (i + d + 1) (by omega)
      rw [show 2 * (i + d + 1) + 3 = 2 * (i + (d + 1) + 1) + 1 by omega] at h2
      omega
  rcases Nat.lt_trichotomy p1 p2 with h | h | h
  · have h1 := b2 p1 h
    have h2 := a3 p1 (Nat.le_refl _) (by omega)
    omega
  · exact h
  · have h1 : x ≤ g (2 * p2 + 1) := by rcases b3 with q | q; omega; exact q
    have h2 : g (2 * (p1 - 1) + 1) ≤ x := by rcases a2 with q | q; omega; exact q
    have h3 := hne p2 (by omega)
    by_cases e : p1 - 1 = p2
    · rw [e] at h2; omega
    · have h4 := hsort (p1 - 1 - p2 - 1) p2 (by omega)
      rw [show p2 + (p1 - 1 - p2 - 1) + 1 = p1 - 1 by omega] at h4
      omega
theorem lp_insert_1 (X : AX) (I J : Nat → Nat → Int) (cc ss : Nat) {g : F1} (I0 : F2) (n : Nat) (x : Int) (hn5 : n < 5) (pl : Nat) (hpl : pl ≤ n) (hn : I 2 2 = (n : Int)) (hF : ∀ a, a ≠ 2 → a ≠ 3 → a ≠ 4 → I a = I0 a) (hA : ∀ j, j < pl → I 3 j = g (2 * j + 1) ∧ I 4 j = g (2 * j + 2)) (hB : ∀ j, pl ≤ j → j < n → I 3 (j + 1) = g (2 * j + 1) ∧ I 4 (j + 1) = g (2 * j + 2)) (hC : ∀ j, pl ≤ j → j < n → x < g (2 * j + 1)) : Ev X k_X5_insert (14, [some (vr 2), some (vi x), some (vi (pl : Int))], []) (MS I J cc ss) (PZ cc ss (fun z I' J' => J' = J ∧ (∀ a, a ≠ 2 → a ≠ 3 → a ≠ 4 → I' a = I0 a) ∧ ∃ pl : Nat, z = (pl : Int) ∧ pl ≤ n ∧ (pl = 0 ∨ g (2 * (pl - 1) + 1) ≤ x) ∧ (∀ j, pl ≤ j → j < n → x < g (2 * j + 1)) ∧ SRep I' 1 (insF g pl n x 0))) := by
  refine ev_n (fr' := (15, [some (vr 2), some (vi x), some (vi (pl : Int))], [vi (pl : Int)])) (S' := MS I J cc ss) 1 rfl ?_
  refine ev_if (c := .le) (off := 49) rfl (by decide) (fun (g1 : (pl : Int) ≤ 0) => ?_) (fun (g1 : ¬ ((pl : Int) ≤ 0)) => ?_)
  · show Ev X k_X5_insert (64, [some (vr 2), some (vi x), some (vi (pl : Int))], []) (MS I J cc ss) _
    refine ev_n (fr' := (70, [some (vr 2), some (vi x), some (vi (pl : Int))], [vi x, vi (pl : Int), vr 3])) (S' := MS I J cc ss) 4 rfl ?_
    refine ev_iasN (j := pl) rfl rfl (by omega) (by omega) ?_
    show Ev X k_X5_insert (71, [some (vr 2), some (vi x), some (vi (pl : Int))], []) (MS (up2 I 3 pl x) J cc ss) _
    refine ev_n (fr' := (77, [some (vr 2), some (vi x), some (vi (pl : Int))], [vi 0, vi (pl : Int), vr 4])) (S' := MS (up2 I 3 pl x) J cc ss) 4 rfl ?_
    refine ev_iasN (j := pl) rfl rfl (by omega) (by omega) ?_
    show Ev X k_X5_insert (78, [some (vr 2), some (vi x), some (vi (pl : Int))], []) (MS (up2 (up2 I 3 pl x) 4 pl 0) J cc ss) _
    refine ev_n (fr' := (83, [some (vr 2), some (vi x), some (vi (pl : Int))], [vi (I 2 2), vr 2])) (S' := MS (up2 (up2 I 3 pl x) 4 pl 0) J cc ss) 3 rfl ?_
    refine ev_eqi (hn) ?_
    show Ev X k_X5_insert (83, [some (vr 2), some (vi x), some (vi (pl : Int))], [vi (n : Int), vr 2]) (MS (up2 (up2 I 3 pl x) 4 pl 0) J cc ss) _
    refine ev_n (fr' := (84, [some (vr 2), some (vi x), some (vi (pl : Int))], [vi 1, vi (n : Int), vr 2])) (S' := MS (up2 (up2 I 3 pl x) 4 pl 0) J cc ss) 1 rfl ?_
    refine ev_add (z := (n : Int) + 1) rfl (by omega) (by omega) (by omega) ?_
    show Ev X k_X5_insert (85, [some (vr 2), some (vi x), some (vi (pl : Int))], [vi ((n : Int) + 1), vr 2]) (MS (up2 (up2 I 3 pl x) 4 pl 0) J cc ss) _
    refine ev_n (fr' := (88, [some (vr 2), some (vi x), some (vi (pl : Int))], [])) (S' := MS (up2 (up2 (up2 I 3 pl x) 4 pl 0) 2 2 ((n : Int) + 1)) J cc ss) 1 rfl ?_
    refine ev_n (fr' := (89, [some (vr 2), some (vi x), some (vi (pl : Int))], [vi (pl : Int)])) (S' := MS (up2 (up2 (up2 I 3 pl x) 4 pl 0) 2 2 ((n : Int) + 1)) J cc ss) 1 rfl ?_
    refine ev_r rfl rfl rfl ?_
    refine ⟨_, _, _, rfl, rfl, rfl, fun a h1 h2 h3 => by rw [up2_row _ _ _ _ h1, up2_row _ _ _ _ h3, up2_row _ _ _ _ h2]; exact hF a h1 h2 h3, pl, rfl, hpl, by omega, hC, ?_, fun k hk => ?_⟩
    · rw [up2_same]; unfold insF; rw [if_pos rfl]
    · have hk : (k : Int) < (n : Int) + 1 := by unfold insF at hk; rw [if_pos rfl] at hk; exact hk
      rw [up2_row _ _ _ _ (by omega), up2_row _ _ _ _ (by omega), up2_row (up2 _ _ _ _) _ _ _ (by omega)]
      unfold insF
      rcases Nat.lt_trichotomy k pl with e | e | e
      · rw [up2_ne2 _ _ _ _ (by omega), up2_ne2 _ _ _ _ (by omega), if_neg (by omega), if_neg (by omega), if_neg (by omega), if_neg (by omega), if_neg (by omega), if_neg (by omega), if_neg (by omega), if_neg (by omega)]; first | exact hA k e | (rw [up2_row _ _ _ _ (by omega)]; exact hA k e)
      · subst e
        rw [up2_same, up2_same, if_neg (by omega), if_pos rfl, if_neg (by omega), if_neg (by omega), if_pos rfl]; exact ⟨rfl, rfl⟩
      · rw [up2_ne2 _ _ _ _ (by omega), up2_ne2 _ _ _ _ (by omega), if_neg (by omega), if_neg (by omega), if_neg (by omega), if_pos (by omega), if_neg (by omega), if_neg (by omega), if_neg (by omega), if_pos (by omega)]
        have h9 := hB (k - 1) (by omega) (by omega)
        rw [show k - 1 + 1 = k by omega] at h9
        rw [show 2 * k + 1 - 2 = 2 * (k - 1) + 1 by omega, show 2 * k + 2 - 2 = 2 * (k - 1) + 2 by omega]
        first | exact h9 | (rw [up2_row _ _ _ _ (by omega)]; exact h9)
  · show Ev X k_X5_insert (18, [some (vr 2), some (vi x), some (vi (pl : Int))], []) (MS I J cc ss) _
    refine ev_n (fr' := (24, [some (vr 2), some (vi x), some (vi (pl : Int))], [vi 1, vi (pl : Int), vr 3])) (S' := MS I J cc ss) 4 rfl ?_
    refine ev_sub (z := (pl : Int) - 1) rfl (by omega) (by omega) (by omega) ?_
    show Ev X k_X5_insert (25, [some (vr 2), some (vi x), some (vi (pl : Int))], [vi ((pl : Int) - 1), vr 3]) (MS I J cc ss) _
    refine ev_iaN (j := pl - 1) (z := (g (2 * (pl - 1) + 1))) rfl rfl (by omega) (by omega) ((hA _ (by omega)).1) ?_
    show Ev X k_X5_insert (26, [some (vr 2), some (vi x), some (vi (pl : Int))], [vi (g (2 * (pl - 1) + 1))]) (MS I J cc ss) _
    refine ev_n (fr' := (27, [some (vr 2), some (vi x), some (vi (pl : Int))], [vi x, vi (g (2 * (pl - 1) + 1))])) (S' := MS I J cc ss) 1 rfl ?_
    refine ev_ic (c := .le) (off := 37) rfl (by decide) (fun (g2 : (g (2 * (pl - 1) + 1)) ≤ x) => ?_) (fun (g2 : ¬ ((g (2 * (pl - 1) + 1)) ≤ x)) => ?_)
    · show Ev X k_X5_insert (64, [some (vr 2), some (vi x), some (vi (pl : Int))], []) (MS I J cc ss) _
      refine ev_n (fr' := (70, [some (vr 2), some (vi x), some (vi (pl : Int))], [vi x, vi (pl : Int), vr 3])) (S' := MS I J cc ss) 4 rfl ?_
      refine ev_iasN (j := pl) rfl rfl (by omega) (by omega) ?_
      show Ev X k_X5_insert (71, [some (vr 2), some (vi x), some (vi (pl : Int))], []) (MS (up2 I 3 pl x) J cc ss) _
      refine ev_n (fr' := (77, [some (vr 2), some (vi x), some (vi (pl : Int))], [vi 0, vi (pl : Int), vr 4])) (S' := MS (up2 I 3 pl x) J cc ss) 4 rfl ?_
      refine ev_iasN (j := pl) rfl rfl (by omega) (by omega) ?_
      show Ev X k_X5_insert (78, [some (vr 2), some (vi x), some (vi (pl : Int))], []) (MS (up2 (up2 I 3 pl x) 4 pl 0) J cc ss) _
      refine ev_n (fr' := (83, [some (vr 2), some (vi x), some (vi (pl : Int))], [vi (I 2 2), vr 2])) (S' := MS (up2 (up2 I 3 pl x) 4 pl 0) J cc ss) 3 rfl ?_
      refine ev_eqi (hn) ?_
      show Ev X k_X5_insert (83, [some (vr 2), some (vi x), some (vi (pl : Int))], [vi (n : Int), vr 2]) (MS (up2 (up2 I 3 pl x) 4 pl 0) J cc ss) _
      refine ev_n (fr' := (84, [some (vr 2), some (vi x), some (vi (pl : Int))], [vi 1, vi (n : Int), vr 2])) (S' := MS (up2 (up2 I 3 pl x) 4 pl 0) J cc ss) 1 rfl ?_
      refine ev_add (z := (n : Int) + 1) rfl (by omega) (by omega) (by omega) ?_
      show Ev X k_X5_insert (85, [some (vr 2), some (vi x), some (vi (pl : Int))], [vi ((n : Int) + 1), vr 2]) (MS (up2 (up2 I 3 pl x) 4 pl 0) J cc ss) _
      refine ev_n (fr' := (88, [some (vr 2), some (vi x), some (vi (pl : Int))], [])) (S' := MS (up2 (up2 (up2 I 3 pl x) 4 pl 0) 2 2 ((n : Int) + 1)) J cc ss) 1 rfl ?_
      refine ev_n (fr' := (89, [some (vr 2), some (vi x), some (vi (pl : Int))], [vi (pl : Int)])) (S' := MS (up2 (up2 (up2 I 3 pl x) 4 pl 0) 2 2 ((n : Int) + 1)) J cc ss) 1 rfl ?_
      refine ev_r rfl rfl rfl ?_
      refine ⟨_, _, _, rfl, rfl, rfl, fun a h1 h2 h3 => by rw [up2_row _ _ _ _ h1, up2_row _ _ _ _ h3, up2_row _ _ _ _ h2]; exact hF a h1 h2 h3, pl, rfl, hpl, by omega, hC, ?_, fun k hk => ?_⟩
      · rw [up2_same]; unfold insF; rw [if_pos rfl]
      · have hk : (k : Int) < (n : Int) + 1 := by unfold insF at hk; rw [if_pos rfl] at hk; exact hk
        rw [up2_row _ _ _ _ (by omega), up2_row _ _ _ _ (by omega), up2_row (up2 _ _ _ _) _ _ _ (by omega)]
        unfold insF
        rcases Nat.lt_trichotomy k pl with e | e | e
        · rw [up2_ne2 _ _ _ _ (by omega), up2_ne2 _ _ _ _ (by omega), if_neg (by omega), if_neg (by omega), if_neg (by omega), if_neg (by omega), if_neg (by omega), if_neg (by omega), if_neg (by omega), if_neg (by omega)]; first | exact hA k e | (rw [up2_row _ _ _ _ (by omega)]; exact hA k e)
        · subst e
          rw [up2_same, up2_same, if_neg (by omega), if_pos rfl, if_neg (by omega), if_neg (by omega), if_pos rfl]; exact ⟨rfl, rfl⟩
        · rw [up2_ne2 _ _ _ _ (by omega), up2_ne2 _ _ _ _ (by omega), if_neg (by omega), if_neg (by omega), if_neg (by omega), if_pos (by omega), if_neg (by omega), if_neg (by omega), if_neg (by omega), if_pos (by omega)]
          have h9 := hB (k - 1) (by omega) (by omega)
          rw [show k - 1 + 1 = k by omega] at h9
          rw [show 2 * k + 1 - 2 = 2 * (k - 1) + 1 by omega, show 2 * k + 2 - 2 = 2 * (k - 1) + 2 by omega]
          first | exact h9 | (rw [up2_row _ _ _ _ (by omega)]; exact h9)
    · show Ev X k_X5_insert (30, [some (vr 2), some (vi x), some (vi (pl : Int))], []) (MS I J cc ss) _
      refine ev_n (fr' := (41, [some (vr 2), some (vi x), some (vi (pl : Int))], [vi 1, vi (pl : Int), vr 3, vi (pl : Int), vr 3])) (S' := MS I J cc ss) 7 rfl ?_
      refine ev_sub (z := (pl : Int) - 1) rfl (by omega) (by omega) (by omega) ?_
      show Ev X k_X5_insert (42, [some (vr 2), some (vi x), some (vi (pl : Int))], [vi ((pl : Int) - 1), vr 3, vi (pl : Int), vr 3]) (MS I J cc ss) _
      refine ev_iaN (j := pl - 1) (z := (g (2 * (pl - 1) + 1))) rfl rfl (by omega) (by omega) ((hA _ (by omega)).1) ?_
      show Ev X k_X5_insert (43, [some (vr 2), some (vi x), some (vi (pl : Int))], [vi (g (2 * (pl - 1) + 1)), vi (pl : Int), vr 3]) (MS I J cc ss) _
      refine ev_iasN (j := pl) rfl rfl (by omega) (by omega) ?_
      show Ev X k_X5_insert (44, [some (vr 2), some (vi x), some (vi (pl : Int))], []) (MS (up2 I 3 pl (g (2 * (pl - 1) + 1))) J cc ss) _
      refine ev_n (fr' := (55, [some (vr 2), some (vi x), some (vi (pl : Int))], [vi 1, vi (pl : Int), vr 4, vi (pl : Int), vr 4])) (S' := MS (up2 I 3 pl (g (2 * (pl - 1) + 1))) J cc ss) 7 rfl ?_
      refine ev_sub (z := (pl : Int) - 1) rfl (by omega) (by omega) (by omega) ?_
      show Ev X k_X5_insert (56, [some (vr 2), some (vi x), some (vi (pl : Int))], [vi ((pl : Int) - 1), vr 4, vi (pl : Int), vr 4]) (MS (up2 I 3 pl (g (2 * (pl - 1) + 1))) J cc ss) _
      refine ev_iaN (j := pl - 1) (z := (g (2 * (pl - 1) + 2))) rfl rfl (by omega) (by omega) (show I 4 (pl - 1) = g (2 * (pl - 1) + 2) from (hA (pl - 1) (by omega)).2) ?_
      show Ev X k_X5_insert (57, [some (vr 2), some (vi x), some (vi (pl : Int))], [vi (g (2 * (pl - 1) + 2)), vi (pl : Int), vr 4]) (MS (up2 I 3 pl (g (2 * (pl - 1) + 1))) J cc ss) _
      refine ev_iasN (j := pl) rfl rfl (by omega) (by omega) ?_
      show Ev X k_X5_insert (58, [some (vr 2), some (vi x), some (vi (pl : Int))], []) (MS (up2 (up2 I 3 pl (g (2 * (pl - 1) + 1))) 4 pl (g (2 * (pl - 1) + 2))) J cc ss) _
      refine ev_inc (z := (pl : Int) - 1) rfl rfl (by omega) (by omega) (by omega) rfl ?_
      show Ev X k_X5_insert (61, [some (vr 2), some (vi x), some (vi ((pl : Int) - 1))], []) (MS (up2 (up2 I 3 pl (g (2 * (pl - 1) + 1))) 4 pl (g (2 * (pl - 1) + 2))) J cc ss) _
      refine ev_n (fr' := (14, [some (vr 2), some (vi x), some (vi ((pl : Int) - 1))], [])) (S' := MS (up2 (up2 I 3 pl (g (2 * (pl - 1) + 1))) 4 pl (g (2 * (pl - 1) + 2))) J cc ss) 1 rfl ?_
      rw [show (pl : Int) - 1 = ((pl - 1 : Nat) : Int) by omega]
      refine lp_insert_1 X _ J cc ss I0 n x hn5 (pl - 1) (by omega) (by rw [up2_row _ _ _ _ (by decide), up2_row _ _ _ _ (by decide)]; exact hn) (fun a h1 h2 h3 => by rw [up2_row _ _ _ _ h3, up2_row _ _ _ _ h2]; exact hF a h1 h2 h3) (fun j hj => ?_) (fun j hj hj2 => ?_) (fun j hj hj2 => ?_)
      · rw [up2_row _ _ _ _ (by decide), up2_ne2 _ _ _ _ (by omega), up2_ne2 _ _ _ _ (by omega), up2_row _ _ _ _ (by decide)]; exact hA j (by omega)
      · rw [up2_row _ _ _ _ (by decide)]
        by_cases e : j = pl - 1
        · rw [show j + 1 = pl by omega, up2_same, up2_same, e]; exact ⟨rfl, rfl⟩
        · rw [up2_ne2 _ _ _ _ (by omega), up2_ne2 _ _ _ _ (by omega), up2_row _ _ _ _ (by decide)]; exact hB j (by omega) hj2
      · by_cases e : j = pl - 1
        · rw [e]; omega
        · exact hC j (by omega) hj2
termination_by pl
decreasing_by all_goals omega
theorem sp_insert_1 (X : AX) (I J : Nat → Nat → Int) (cc ss : Nat) {g : F1} (n : Nat) (x : Int) (hS : SRep I 1 g) (hg0 : g 0 = (n : Int)) (hn5 : n < 5) : Ev X k_X5_insert (0, [some (vr 2), some (vi x), none], []) (MS I J cc ss) (PZ cc ss (fun z I' J' => J' = J ∧ (∀ a, a ≠ 2 → a ≠ 3 → a ≠ 4 → I' a = I a) ∧ ∃ pl : Nat, z = (pl : Int) ∧ pl ≤ n ∧ (pl = 0 ∨ g (2 * (pl - 1) + 1) ≤ x) ∧ (∀ j, pl ≤ j → j < n → x < g (2 * j + 1)) ∧ SRep I' 1 (insF g pl n x 0))) := by
  refine ev_n (fr' := (1, [some (vr 2), some (vi x), none], [vr 2])) (S' := MS I J cc ss) 1 rfl ?_
  refine ev_cv rfl rfl rfl ⟨Nat.le_of_ble_eq_true rfl, Nat.le_of_ble_eq_true rfl⟩ (sp_sIsFull_2 X _ _ _ _ hS) ?_
  show Ev X k_X5_insert (4, [some (vr 2), some (vi x), none], [vi (if 5 ≤ g 0 then 1 else 0)]) (MS I J cc ss) _
  refine ev_beq _ rfl (by decide) (fun (g1 : ¬ (5 ≤ g 0)) => ?_) (fun (g1 : 5 ≤ g 0) => False.elim (by omega))
  show Ev X k_X5_insert (9, [some (vr 2), some (vi x), none], []) (MS I J cc ss) _
  refine ev_n (fr' := (13, [some (vr 2), some (vi x), none], [vi (I 2 2)])) (S' := MS I J cc ss) 2 rfl ?_
  refine ev_eqi (hS.1.trans hg0) ?_
  show Ev X k_X5_insert (13, [some (vr 2), some (vi x), none], [vi (n : Int)]) (MS I J cc ss) _
  refine ev_n (fr' := (14, [some (vr 2), some (vi x), some (vi (n : Int))], [])) (S' := MS I J cc ss) 1 rfl ?_
  exact lp_insert_1 X I J cc ss I n x hn5 n (Nat.le_refl _) (hS.1.trans hg0) (fun _ _ _ _ => rfl) (fun j hj => hS.2 j (by omega)) (fun j h1 h2 => absurd h1 (by omega)) (fun j h1 h2 => absurd h1 (by omega))
theorem sp_putExtra_1 (X : AX) (I J : Nat → Nat → Int) (cc ss : Nat) {g : F1} (k : Nat) (x : Int) (hS : SRep I 1 g) (hk : (k : Int) < g 0) (h5 : g 0 ≤ 5) : Ev X k_X5_putExtra (0, [some (vr 2), some (vi (k : Int)), some (vi x)], []) (MS I J cc ss) (fun o T => o = .inl none ∧ T = MS (up2 I 4 k x) J cc ss) := by
  refine ev_n (fr' := (2, [some (vr 2), some (vi (k : Int)), some (vi x)], [vi (k : Int), vr 2])) (S' := MS I J cc ss) 2 rfl ?_
  refine ev_cv rfl rfl rfl ⟨Nat.le_of_ble_eq_true rfl, Nat.le_of_ble_eq_true rfl⟩ (sp_has_2 X _ _ _ _ (k : Int) hS) ?_
  show Ev X k_X5_putExtra (5, [some (vr 2), some (vi (k : Int)), some (vi x)], [vi (if 0 ≤ (k : Int) ∧ (k : Int) < g 0 then 1 else 0)]) (MS I J cc ss) _
  refine ev_beq _ rfl (by decide) (fun (g1 : ¬ (0 ≤ (k : Int) ∧ (k : Int) < g 0)) => False.elim (by omega)) (fun (g1 : 0 ≤ (k : Int) ∧ (k : Int) < g 0) => ?_)
  show Ev X k_X5_putExtra (8, [some (vr 2), some (vi (k : Int)), some (vi x)], []) (MS I J cc ss) _
  refine ev_n (fr' := (14, [some (vr 2), some (vi (k : Int)), some (vi x)], [vi x, vi (k : Int), vr 4])) (S' := MS I J cc ss) 4 rfl ?_
  refine ev_iasN (j := k) rfl rfl (by omega) (by omega) ?_
  show Ev X k_X5_putExtra (15, [some (vr 2), some (vi (k : Int)), some (vi x)], []) (MS (up2 I 4 k x) J cc ss) _
  refine ev_r rfl rfl rfl ?_
  exact ⟨rfl, rfl⟩
theorem lp_insert_114 (X : AX) (I J : Nat → Nat → Int) (cc ss : Nat) {g : F1} (I0 : F2) (n : Nat) (x : Int) (hn5 : n < 5) (pl : Nat) (hpl : pl ≤ n) (hn : I 115 2 = (n : Int)) (hF : ∀ a, a ≠ 115 → a ≠ 116 → a ≠ 117 → I a = I0 a) (hA : ∀ j, j < pl → I 116 j = g (2 * j + 1) ∧ I 117 j = g (2 * j + 2)) (hB : ∀ j, pl ≤ j → j < n → I 116 (j + 1) = g (2 * j + 1) ∧ I 117 (j + 1) = g (2 * j + 2)) (hC : ∀ j, pl ≤ j → j < n → x < g (2 * j + 1)) : Ev X k_X5_insert (14, [some (vr 115), some (vi x), some (vi (pl : Int))], []) (MS I J cc ss) (PZ cc ss (fun z I' J' => J' = J ∧ (∀ a, a ≠ 115 → a ≠ 116 → a ≠ 117 → I' a = I0 a) ∧ ∃ pl : Nat, z = (pl : Int) ∧ pl ≤ n ∧ (pl = 0 ∨ g (2 * (pl - 1) + 1) ≤ x) ∧ (∀ j, pl ≤ j → j < n → x < g (2 * j + 1)) ∧ SRep I' 114 (insF g pl n x 0))) := by
  refine ev_n (fr' := (15, [some (vr 115), some (vi x), some (vi (pl : Int))], [vi (pl : Int)])) (S' := MS I J cc ss) 1 rfl ?_
  refine ev_if (c := .le) (off := 49) rfl (by decide) (fun (g1 : (pl : Int) ≤ 0) => ?_) (fun (g1 : ¬ ((pl : Int) ≤ 0)) => ?_)
  · show Ev X k_X5_insert (64, [some (vr 115), some (vi x), some (vi (pl : Int))], []) (MS I J cc ss) _
    refine ev_n (fr' := (70, [some (vr 115), some (vi x), some (vi (pl : Int))], [vi x, vi (pl : Int), vr 116])) (S' := MS I J cc ss) 4 rfl ?_
    refine ev_iasN (j := pl) rfl rfl (by omega) (by omega) ?_
    show Ev X k_X5_insert (71, [some (vr 115), some (vi x), some (vi (pl : Int))], []) (MS (up2 I 116 pl x) J cc ss) _
    refine ev_n (fr' := (77, [some (vr 115), some (vi x), some (vi (pl : Int))], [vi 0, vi (pl : Int), vr 117])) (S' := MS (up2 I 116 pl x) J cc ss) 4 rfl ?_
    refine ev_iasN (j := pl) rfl rfl (by omega) (by omega) ?_
    show Ev X k_X5_insert (78, [some (vr 115), some (vi x), some (vi (pl : Int))], []) (MS (up2 (up2 I 116 pl x) 117 pl 0) J cc ss) _
    refine ev_n (fr' := (83, [some (vr 115), some (vi x), some (vi (pl : Int))], [vi (I 115 2), vr 115])) (S' := MS (up2 (up2 I 116 pl x) 117 pl 0) J cc ss) 3 rfl ?_
    refine ev_eqi (hn) ?_
    show Ev X k_X5_insert (83, [some (vr 115), some (vi x), some (vi (pl : Int))], [vi (n : Int), vr 115]) (MS (up2 (up2 I 116 pl x) 117 pl 0) J cc ss) _
    refine ev_n (fr' := (84, [some (vr 115), some (vi x), some (vi (pl : Int))], [vi 1, vi (n : Int), vr 115])) (S' := MS (up2 (up2 I 116 pl x) 117 pl 0) J cc ss) 1 rfl ?_
    refine ev_add (z := (n : Int) + 1) rfl (by omega) (by omega) (by omega) ?_
    show Ev X k_X5_insert (85, [some (vr 115), some (vi x), some (vi (pl : Int))], [vi ((n : Int) + 1), vr 115]) (MS (up2 (up2 I 116 pl x) 117 pl 0) J cc ss) _
    refine ev_n (fr' := (88, [some (vr 115), some (vi x), some (vi (pl : Int))], [])) (S' := MS (up2 (up2 (up2 I 116 pl x) 117 pl 0) 115 2 ((n : Int) + 1)) J cc ss) 1 rfl ?_
    refine ev_n (fr' := (89, [some (vr 115), some (vi x), some (vi (pl : Int))], [vi (pl : Int)])) (S' := MS (up2 (up2 (up2 I 116 pl x) 117 pl 0) 115 2 ((n : Int) + 1)) J cc ss) 1 rfl ?_
    refine ev_r rfl rfl rfl ?_
    refine ⟨_, _, _, rfl, rfl, rfl, fun a h1 h2 h3 => by rw [up2_row _ _ _ _ h1, up2_row _ _ _ _ h3, up2_row _ _ _ _ h2]; exact hF a h1 h2 h3, pl, rfl, hpl, by omega, hC, ?_, fun k hk => ?_⟩
    · rw [up2_same]; unfold insF; rw [if_pos rfl]
    · have hk : (k : Int) < (n : Int) + 1 := by unfold insF at hk; rw [if_pos rfl] at hk; exact hk
      rw [up2_row _ _ _ _ (by omega), up2_row _ _ _ _ (by omega), up2_row (up2 _ _ _ _) _ _ _ (by omega)]
      unfold insF
      rcases Nat.lt_trichotomy k pl with e | e | e
      · rw [up2_ne2 _ _ _ _ (by omega), up2_ne2 _ _ _ _ (by omega), if_neg (by omega), if_neg (by omega), if_neg (by omega), if_neg (by omega), if_neg (by omega), if_neg (by omega), if_neg (by omega), if_neg (by omega)]; first | exact hA k e | (rw [up2_row _ _ _ _ (by omega)]; exact hA k e)
      · subst e
        rw [up2_same, up2_same, if_neg (by omega), if_pos rfl, if_neg (by omega), if_neg (by omega), if_pos rfl]; exact ⟨rfl, rfl⟩
      · rw [up2_ne2 _ _ _ _ (by omega), up2_ne2 _ _ _ _ (by omega), if_neg (by omega), if_neg (by omega), if_neg (by omega), if_pos (by omega), if_neg (by omega), if_neg (by omega), if_neg (by omega), if_pos (by omega)]
        have h9 := hB (k - 1) (by omega) (by omega)
        rw [show k - 1 + 1 = k by omega] at h9
        rw [show 2 * k + 1 - 2 = 2 * (k - 1) + 1 by omega, show 2 * k + 2 - 2 = 2 * (k - 1) + 2 by omega]
        first | exact h9 | (rw [up2_row _ _ _ _ (by omega)]; exact h9)
  · show Ev X k_X5_insert (18, [some (vr 115), some (vi x), some (vi (pl : Int))], []) (MS I J cc ss) _
    refine ev_n (fr' := (24, [some (vr 115), some (vi x), some (vi (pl : Int))], [vi 1, vi (pl : Int), vr 116])) (S' := MS I J cc ss) 4 rfl ?_
    refine ev_sub (z := (pl : Int) - 1) rfl (by omega) (by omega) (by omega) ?_
    show Ev X k_X5_insert (25, [some (vr 115), some (vi x), some (vi (pl : Int))], [vi ((pl : Int) - 1), vr 116]) (MS I J cc ss) _
    refine ev_iaN (j := pl - 1) (z := (g (2 * (pl - 1) + 1))) rfl rfl (by omega) (by omega) ((hA _ (by omega)).1) ?_
    show Ev X k_X5_insert (26, [some (vr 115), some (vi x), some (vi (pl : Int))], [vi (g (2 * (pl - 1) + 1))]) (MS I J cc ss) _
    refine ev_n (fr' := (27, [some (vr 115), some (vi x), some (vi (pl : Int))], [vi x, vi (g (2 * (pl - 1) + 1))])) (S' := MS I J cc ss) 1 rfl ?_
    refine ev_ic (c := .le) (off := 37) rfl (by decide) (fun (g2 : (g (2 * (pl - 1) + 1)) ≤ x) => ?_) (fun (g2 : ¬ ((g (2 * (pl - 1) + 1)) ≤ x)) => ?_)
    · show Ev X k_X5_insert (64, [some (vr 115), some (vi x), some (vi (pl : Int))], []) (MS I J cc ss) _
      refine ev_n (fr' := (70, [some (vr 115), some (vi x), some (vi (pl : Int))], [vi x, vi (pl : Int), vr 116])) (S' := MS I J cc ss) 4 rfl ?_
      refine ev_iasN (j := pl) rfl rfl (by omega) (by omega) ?_
      show Ev X k_X5_insert (71, [some (vr 115), some (vi x), some (vi (pl : Int))], []) (MS (up2 I 116 pl x) J cc ss) _
      refine ev_n (fr' := (77, [some (vr 115), some (vi x), some (vi (pl : Int))], [vi 0, vi (pl : Int), vr 117])) (S' := MS (up2 I 116 pl x) J cc ss) 4 rfl ?_
      refine ev_iasN (j := pl) rfl rfl (by omega) (by omega) ?_
      show Ev X k_X5_insert (78, [some (vr 115), some (vi x), some (vi (pl : Int))], []) (MS (up2 (up2 I 116 pl x) 117 pl 0) J cc ss) _
      refine ev_n (fr' := (83, [some (vr 115), some (vi x), some (vi (pl : Int))], [vi (I 115 2), vr 115])) (S' := MS (up2 (up2 I 116 pl x) 117 pl 0) J cc ss) 3 rfl ?_
      refine ev_eqi (hn) ?_
      show Ev X k_X5_insert (83, [some (vr 115), some (vi x), some (vi (pl : Int))], [vi (n : Int), vr 115]) (MS (up2 (up2 I 116 pl x) 117 pl 0) J cc ss) _
      refine ev_n (fr' := (84, [some (vr 115), some (vi x), some (vi (pl : Int))], [vi 1, vi (n : Int), vr 115])) (S' := MS (up2 (up2 I 116 pl x) 117 pl 0) J cc ss) 1 rfl ?_
      refine ev_add (z := (n : Int) + 1) rfl (by omega) (by omega) (by omega) ?_
      show Ev X k_X5_insert (85, [some (vr 115), some (vi x), some (vi (pl : Int))], [vi ((n : Int) + 1), vr 115]) (MS (up2 (up2 I 116 pl x) 117 pl 0) J cc ss) _
      refine ev_n (fr' := (88, [some (vr 115), some (vi x), some (vi (pl : Int))], [])) (S' := MS (up2 (up2 (up2 I 116 pl x) 117 pl 0) 115 2 ((n : Int) + 1)) J cc ss) 1 rfl ?_
      refine ev_n (fr' := (89, [some (vr 115), some (vi x), some (vi (pl : Int))], [vi (pl : Int)])) (S' := MS (up2 (up2 (up2 I 116 pl x) 117 pl 0) 115 2 ((n : Int) + 1)) J cc ss) 1 rfl ?_
      refine ev_r rfl rfl rfl ?_
      refine ⟨_, _, _, rfl, rfl, rfl, fun a h1 h2 h3 => by rw [up2_row _ _ _ _ h1, up2_row _ _ _ _ h3, up2_row _ _ _ _ h2]; exact hF a h1 h2 h3, pl, rfl, hpl, by omega, hC, ?_, fun k hk => ?_⟩
      · rw [up2_same]; unfold insF; rw [if_pos rfl]
      · have hk : (k : Int) < (n : Int) + 1 := by unfold insF at hk; rw [if_pos rfl] at hk; exact hk
        rw [up2_row _ _ _ _ (by omega), up2_row _ _ _ _ (by omega), up2_row (up2 _ _ _ _) _ _ _ (by omega)]
        unfold insF
        rcases Nat.lt_trichotomy k pl with e | e | e
        · rw [up2_ne2 _ _ _ _ (by omega), up2_ne2 _ _ _ _ (by omega), if_neg (by omega), if_neg (by omega), if_neg (by omega), if_neg (by omega), if_neg (by omega), if_neg (by omega), if_neg (by omega), if_neg (by omega)]; first | exact hA k e | (rw [up2_row _ _ _ _ (by omega)]; exact hA k e)
        · subst e
          rw [up2_same, up2_same, if_neg (by omega), if_pos rfl, if_neg (by omega), if_neg (by omega), if_pos rfl]; exact ⟨rfl, rfl⟩
        · rw [up2_ne2 _ _ _ _ (by omega), up2_ne2 _ _ _ _ (by omega), if_neg (by omega), if_neg (by omega), if_neg (by omega), if_pos (by omega), if_neg (by omega), if_neg (by omega), if_neg (by omega), if_pos (by omega)]
          have h9 := hB (k - 1) (by omega) (by omega)
          rw [show k - 1 + 1 = k by omega] at h9
          rw [show 2 * k + 1 - 2 = 2 * (k - 1) + 1 by omega, show 2 * k + 2 - 2 = 2 * (k - 1) + 2 by omega]
          first | exact h9 | (rw [up2_row _ _ _ _ (by omega)]; exact h9)
    · show Ev X k_X5_insert (30, [some (vr 115), some (vi x), some (vi (pl : Int))], []) (MS I J cc ss) _
      refine ev_n (fr' := (41, [some (vr 115), some (vi x), some (vi (pl : Int))], [vi 1, vi (pl : Int), vr 116, vi (pl : Int), vr 116])) (S' := MS I J cc ss) 7 rfl ?_
      refine ev_sub (z := (pl : Int) - 1) rfl (by omega) (by omega) (by omega) ?_
      show Ev X k_X5_insert (42, [some (vr 115), some (vi x), some (vi (pl : Int))], [vi ((pl : Int) - 1), vr 116, vi (pl : Int), vr 116]) (MS I J cc ss) _
      refine ev_iaN (j := pl - 1) (z := (g (2 * (pl - 1) + 1))) rfl rfl (by omega) (by omega) ((hA _ (by omega)).1) ?_
      show Ev X k_X5_insert (43, [some (vr 115), some (vi x), some (vi (pl : Int))], [vi (g (2 * (pl - 1) + 1)), vi (pl : Int), vr 116]) (MS I J cc ss) _
      refine ev_iasN (j := pl) rfl rfl (by omega) (by omega) ?_
      show Ev X k_X5_insert (44, [some (vr 115), some (vi x), some (vi (pl : Int))], []) (MS (up2 I 116 pl (g (2 * (pl - 1) + 1))) J cc ss) _
      refine ev_n (fr' := (55, [some (vr 115), some (vi x), some (vi (pl : Int))], [vi 1, vi (pl : Int), vr 117, vi (pl : Int), vr 117])) (S' := MS (up2 I 116 pl (g (2 * (pl - 1) + 1))) J cc ss) 7 rfl ?_
      refine ev_sub (z := (pl : Int) - 1) rfl (by omega) (by omega) (by omega) ?_
      show Ev X k_X5_insert (56, [some (vr 115), some (vi x), some (vi (pl : Int))], [vi ((pl : Int) - 1), vr 117, vi (pl : Int), vr 117]) (MS (up2 I 116 pl (g (2 * (pl - 1) + 1))) J cc ss) _
      refine ev_iaN (j := pl - 1) (z := (g (2 * (pl - 1) + 2))) rfl rfl (by omega) (by omega) (show I 117 (pl - 1) = g (2 * (pl - 1) + 2) from (hA (pl - 1) (by omega)).2) ?_
      show Ev X k_X5_insert (57, [some (vr 115), some (vi x), some (vi (pl : Int))], [vi (g (2 * (pl - 1) + 2)), vi (pl : Int), vr 117]) (MS (up2 I 116 pl (g (2 * (pl - 1) + 1))) J cc ss) _
      refine ev_iasN (j := pl) rfl rfl (by omega) (by omega) ?_
      show Ev X k_X5_insert (58, [some (vr 115), some (vi x), some (vi (pl : Int))], []) (MS (up2 (up2 I 116 pl (g (2 * (pl - 1) + 1))) 117 pl (g (2 * (pl - 1) + 2))) J cc ss) _
      refine ev_inc (z := (pl : Int) - 1) rfl rfl (by omega) (by omega) (by omega) rfl ?_
      show Ev X k_X5_insert (61, [some (vr 115), some (vi x), some (vi ((pl : Int) - 1))], []) (MS (up2 (up2 I 116 pl (g (2 * (pl - 1) + 1))) 117 pl (g (2 * (pl - 1) + 2))) J cc ss) _
      refine ev_n (fr' := (14, [some (vr 115), some (vi x), some (vi ((pl : Int) - 1))], [])) (S' := MS (up2 (up2 I 116 pl (g (2 * (pl - 1) + 1))) 117 pl (g (2 * (pl - 1) + 2))) J cc ss) 1 rfl ?_
      rw [show (pl : Int) - 1 = ((pl - 1 : Nat) : Int) by omega]
      refine lp_insert_114 X _ J cc ss I0 n x hn5 (pl - 1) (by omega) (by rw [up2_row _ _ _ _ (by decide), up2_row _ _ _ _ (by decide)]; exact hn) (fun a h1 h2 h3 => by rw [up2_row _ _ _ _ h3, up2_row _ _ _ _ h2]; exact hF a h1 h2 h3) (fun j hj => ?_) (fun j hj hj2 => ?_) (fun j hj hj2 => ?_)
      · rw [up2_row _ _ _ _ (by decide), up2_ne2 _ _ _ _ (by omega), up2_ne2 _ _ _ _ (by omega), up2_row _ _ _ _ (by decide)]; exact hA j (by omega)
      · rw [up2_row _ _ _ _ (by decide)]
        by_cases e : j = pl - 1
        · rw [show j + 1 = pl by omega, up2_same, up2_same, e]; exact ⟨rfl, rfl⟩
        · rw [up2_ne2 _ _ _ _ (by omega), up2_ne2 _ _ _ _ (by omega), up2_row _ _ _ _ (by decide)]; exact hB j (by omega) hj2
      · by_cases e : j = pl - 1
        · rw [e]; omega
        · exact hC j (by omega) hj2
termination_by pl
decreasing_by all_goals omega
theorem sp_insert_114 (X : AX) (I J : Nat → Nat → Int) (cc ss : Nat) {g : F1} (n : Nat) (x : Int) (hS : SRep I 114 g) (hg0 : g 0 = (n : Int)) (hn5 : n < 5) : Ev X k_X5_insert (0, [some (vr 115), some (vi x), none], []) (MS I J cc ss) (PZ cc ss (fun z I' J' => J' = J ∧ (∀ a, a ≠ 115 → a ≠ 116 → a ≠ 117 → I' a = I a) ∧ ∃ pl : Nat, z = (pl : Int) ∧ pl ≤ n ∧ (pl = 0 ∨ g (2 * (pl - 1) + 1) ≤ x) ∧ (∀ j, pl ≤ j → j < n → x < g (2 * j + 1)) ∧ SRep I' 114 (insF g pl n x 0))) := by
  refine ev_n (fr' := (1, [some (vr 115), some (vi x), none], [vr 115])) (S' := MS I J cc ss) 1 rfl ?_
  refine ev_cv rfl rfl rfl ⟨Nat.le_of_ble_eq_true rfl, Nat.le_of_ble_eq_true rfl⟩ (sp_sIsFull_115 X _ _ _ _ hS) ?_
  show Ev X k_X5_insert (4, [some (vr 115), some (vi x), none], [vi (if 5 ≤ g 0 then 1 else 0)]) (MS I J cc ss) _
  refine ev_beq _ rfl (by decide) (fun (g1 : ¬ (5 ≤ g 0)) => ?_) (fun (g1 : 5 ≤ g 0) => False.elim (by omega))
  show Ev X k_X5_insert (9, [some (vr 115), some (vi x), none], []) (MS I J cc ss) _
  refine ev_n (fr' := (13, [some (vr 115), some (vi x), none], [vi (I 115 2)])) (S' := MS I J cc ss) 2 rfl ?_
  refine ev_eqi (hS.1.trans hg0) ?_
  show Ev X k_X5_insert (13, [some (vr 115), some (vi x), none], [vi (n : Int)]) (MS I J cc ss) _
  refine ev_n (fr' := (14, [some (vr 115), some (vi x), some (vi (n : Int))], [])) (S' := MS I J cc ss) 1 rfl ?_
  exact lp_insert_114 X I J cc ss I n x hn5 n (Nat.le_refl _) (hS.1.trans hg0) (fun _ _ _ _ => rfl) (fun j hj => hS.2 j (by omega)) (fun j h1 h2 => absurd h1 (by omega)) (fun j h1 h2 => absurd h1 (by omega))
theorem sp_putExtra_114 (X : AX) (I J : Nat → Nat → Int) (cc ss : Nat) {g : F1} (k : Nat) (x : Int) (hS : SRep I 114 g) (hk : (k : Int) < g 0) (h5 : g 0 ≤ 5) : Ev X k_X5_putExtra (0, [some (vr 115), some (vi (k : Int)), some (vi x)], []) (MS I J cc ss) (fun o T => o = .inl none ∧ T = MS (up2 I 117 k x) J cc ss) := by
  refine ev_n (fr' := (2, [some (vr 115), some (vi (k : Int)), some (vi x)], [vi (k : Int), vr 115])) (S' := MS I J cc ss) 2 rfl ?_
  refine ev_cv rfl rfl rfl ⟨Nat.le_of_ble_eq_true rfl, Nat.le_of_ble_eq_true rfl⟩ (sp_has_115 X _ _ _ _ (k : Int) hS) ?_
  show Ev X k_X5_putExtra (5, [some (vr 115), some (vi (k : Int)), some (vi x)], [vi (if 0 ≤ (k : Int) ∧ (k : Int) < g 0 then 1 else 0)]) (MS I J cc ss) _
  refine ev_beq _ rfl (by decide) (fun (g1 : ¬ (0 ≤ (k : Int) ∧ (k : Int) < g 0)) => False.elim (by omega)) (fun (g1 : 0 ≤ (k : Int) ∧ (k : Int) < g 0) => ?_)
  show Ev X k_X5_putExtra (8, [some (vr 115), some (vi (k : Int)), some (vi x)], []) (MS I J cc ss) _
  refine ev_n (fr' := (14, [some (vr 115), some (vi (k : Int)), some (vi x)], [vi x, vi (k : Int), vr 117])) (S' := MS I J cc ss) 4 rfl ?_
  refine ev_iasN (j := k) rfl rfl (by omega) (by omega) ?_
  show Ev X k_X5_putExtra (15, [some (vr 115), some (vi (k : Int)), some (vi x)], []) (MS (up2 I 117 k x) J cc ss) _
  refine ev_r rfl rfl rfl ?_
  exact ⟨rfl, rfl⟩
