/-! ITEMS DROPPED (printed by gen/g56.py) -/
theorem li_drop_5 (X : AX) (I J : Nat → Nat → Int) (cc ss : Nat) {Q : (Option AV ⊕ Nat) → AS → Prop} {g : F1} (I0 : F2) (p s n : Nat) (hg8 : g 11 ≤ 8) (hg6 : ∀ q : Nat, (q : Int) < g 11 → g (37 * q + 12) ≤ 6) (hp : (p : Int) < g 11) (hn : g (37 * p + 12) = (n : Int)) (hn6 : n ≤ 6) (hs : s < n) (pl : Nat) (hpl : s ≤ pl ∧ pl + 1 < n) (w : Nat) (hw : w ≤ 6) (hO : onlyR 5 I0 I) (hR : PRep I J 5 (shD g (37 * p + 6 * s + 13) (37 * p + 6 * pl + w + 13) 6)) (K : ∀ (I' : F2), onlyR 5 I0 I' → PRep I' J 5 (shD g (37 * p + 6 * s + 13) (37 * p + 6 * (pl + 1) + 13) 6) → Ev X k_X3_dropItem (60, [some (vr 5), some (vi (p : Int)), some (vi (s : Int)), some (vi (pl : Int)), some (vi 6)], []) (MS I' J cc ss) Q) : Ev X k_X3_dropItem (27, [some (vr 5), some (vi (p : Int)), some (vi (s : Int)), some (vi (pl : Int)), some (vi (w : Int))], []) (MS I J cc ss) (Q) := by
  have e11 : (shD g (37 * p + 6 * s + 13) (37 * p + 6 * pl + w + 13) 6) 11 = g 11 := shD_out (by omega)
  have h8 : (shD g (37 * p + 6 * s + 13) (37 * p + 6 * pl + w + 13) 6) 11 ≤ 8 := by rw [e11]; exact hg8
  have ec : ∀ q : Nat, (q : Int) < g 11 → (shD g (37 * p + 6 * s + 13) (37 * p + 6 * pl + w + 13) 6) (37 * q + 12) = g (37 * q + 12) := fun q hq => shD_out (by
    have := hg6 q hq
    rcases Nat.lt_trichotomy q p with z | z | z <;> omega)
  have h6 : ∀ q : Nat, (q : Int) < (shD g (37 * p + 6 * s + 13) (37 * p + 6 * pl + w + 13) 6) 11 → (shD g (37 * p + 6 * s + 13) (37 * p + 6 * pl + w + 13) 6) (37 * q + 12) ≤ 6 := fun q hq => by
    rw [e11] at hq
    rw [ec q hq]; exact hg6 q hq
  have ecp := ec p hp
  refine ev_n (fr' := (33, [some (vr 5), some (vi (p : Int)), some (vi (s : Int)), some (vi (pl : Int)), some (vi (w : Int))], [vi (I 5 0), vi (w : Int)])) (S' := MS I J cc ss) 3 rfl ?_
  refine ev_eqi (hR.1) ?_
  show Ev X k_X3_dropItem (33, [some (vr 5), some (vi (p : Int)), some (vi (s : Int)), some (vi (pl : Int)), some (vi (w : Int))], [vi 6, vi (w : Int)]) (MS I J cc ss) _
  refine ev_ic (c := .ge) (off := 27) rfl (by decide) (fun (g1 : 6 ≤ (w : Int)) => ?_) (fun (g1 : ¬ (6 ≤ (w : Int))) => ?_)
  · show Ev X k_X3_dropItem (60, [some (vr 5), some (vi (p : Int)), some (vi (s : Int)), some (vi (pl : Int)), some (vi (w : Int))], []) (MS I J cc ss) _
    have e9 : w = 6 := by omega
    rw [e9] at hR ⊢
    exact K I hO (by rw [show 37 * p + 6 * (pl + 1) + 13 = 37 * p + 6 * pl + 6 + 13 by omega]; exact hR)
  · show Ev X k_X3_dropItem (36, [some (vr 5), some (vi (p : Int)), some (vi (s : Int)), some (vi (pl : Int)), some (vi (w : Int))], []) (MS I J cc ss) _
    refine ev_n (fr' := (45, [some (vr 5), some (vi (p : Int)), some (vi (s : Int)), some (vi (pl : Int)), some (vi (w : Int))], [vi 1, vi (pl : Int), vi (p : Int), vr 5, vi (w : Int), vi (pl : Int), vi (p : Int), vr 5])) (S' := MS I J cc ss) 8 rfl ?_
    refine ev_add (z := (pl : Int) + 1) rfl (by omega) (by omega) (by omega) ?_
    show Ev X k_X3_dropItem (46, [some (vr 5), some (vi (p : Int)), some (vi (s : Int)), some (vi (pl : Int)), some (vi (w : Int))], [vi ((pl : Int) + 1), vi (p : Int), vr 5, vi (w : Int), vi (pl : Int), vi (p : Int), vr 5]) (MS I J cc ss) _
    refine ev_n (fr' := (48, [some (vr 5), some (vi (p : Int)), some (vi (s : Int)), some (vi (pl : Int)), some (vi (w : Int))], [vi (w : Int), vi ((pl : Int) + 1), vi (p : Int), vr 5, vi (w : Int), vi (pl : Int), vi (p : Int), vr 5])) (S' := MS I J cc ss) 1 rfl ?_
    refine ev_cv rfl rfl rfl ⟨Nat.le_of_ble_eq_true rfl, Nat.le_of_ble_eq_true rfl⟩ (sp_number2_5 X _ _ _ _ p (pl + 1) w hR h8 h6 (by omega) (by omega) (by omega)) ?_
    show Ev X k_X3_dropItem (51, [some (vr 5), some (vi (p : Int)), some (vi (s : Int)), some (vi (pl : Int)), some (vi (w : Int))], [vi ((shD g (37 * p + 6 * s + 13) (37 * p + 6 * pl + w + 13) 6) (37 * p + 6 * (pl + 1) + w + 13)), vi (w : Int), vi (pl : Int), vi (p : Int), vr 5]) (MS I J cc ss) _
    refine ev_cv rfl rfl rfl ⟨Nat.le_of_ble_eq_true rfl, Nat.le_of_ble_eq_true rfl⟩ (sp_putNumber_5 X _ _ _ _ p pl w (((shD g (37 * p + 6 * s + 13) (37 * p + 6 * pl + w + 13) 6) (37 * p + 6 * (pl + 1) + w + 13))) hR h8 h6 (by omega) (by omega) (by omega)) ?_
    show Ev X k_X3_dropItem (54, [some (vr 5), some (vi (p : Int)), some (vi (s : Int)), some (vi (pl : Int)), some (vi (w : Int))], []) (MS (up2 I 8 (36 * p + 6 * pl + w) ((shD g (37 * p + 6 * s + 13) (37 * p + 6 * pl + w + 13) 6) (37 * p + 6 * (pl + 1) + w + 13))) J cc ss) _
    refine ev_inc (z := (w : Int) + 1) rfl rfl (by omega) (by omega) (by omega) rfl ?_
    show Ev X k_X3_dropItem (57, [some (vr 5), some (vi (p : Int)), some (vi (s : Int)), some (vi (pl : Int)), some (vi ((w : Int) + 1))], []) (MS (up2 I 8 (36 * p + 6 * pl + w) ((shD g (37 * p + 6 * s + 13) (37 * p + 6 * pl + w + 13) 6) (37 * p + 6 * (pl + 1) + w + 13))) J cc ss) _
    refine ev_n (fr' := (27, [some (vr 5), some (vi (p : Int)), some (vi (s : Int)), some (vi (pl : Int)), some (vi ((w : Int) + 1))], [])) (S' := MS (up2 I 8 (36 * p + 6 * pl + w) ((shD g (37 * p + 6 * s + 13) (37 * p + 6 * pl + w + 13) 6) (37 * p + 6 * (pl + 1) + w + 13))) J cc ss) 1 rfl ?_
    have hPn := PRep.put hR (p := p) (s := pl) (w := w) (v := ((shD g (37 * p + 6 * s + 13) (37 * p + 6 * pl + w + 13) 6) (37 * p + 6 * (pl + 1) + w + 13))) (by omega) h8 h6 (by omega) (by omega)
    have hsh := shD_next g (37 * p + 6 * s + 13) (37 * p + 6 * pl + w + 13) 6 (by omega) (by omega)
    rw [show (37 * p + 6 * pl + w + 13) + 6 = 37 * p + 6 * (pl + 1) + w + 13 by omega] at hsh
    rw [hsh, show (37 * p + 6 * pl + w + 13) + 1 = 37 * p + 6 * pl + (w + 1) + 13 by omega] at hPn
    exact li_drop_5 X _ _ cc ss I0 p s n hg8 hg6 hp hn hn6 hs pl hpl (w + 1) (by omega) (fun a h1 h2 => by rw [up2_row _ _ _ _ h2]; exact hO a h1 h2) hPn K
termination_by 7 - w
decreasing_by all_goals omega
theorem lp_drop_5 (X : AX) (I J : Nat → Nat → Int) (cc ss : Nat) {g : F1} (I0 : F2) (p s n : Nat) (hg8 : g 11 ≤ 8) (hg6 : ∀ q : Nat, (q : Int) < g 11 → g (37 * q + 12) ≤ 6) (hp : (p : Int) < g 11) (hn : g (37 * p + 12) = (n : Int)) (hn6 : n ≤ 6) (hs : s < n) (pl : Nat) (v4 : Option AV) (hpl : s ≤ pl ∧ pl + 1 ≤ n) (hO : onlyR 5 I0 I) (hR : PRep I J 5 (shD g (37 * p + 6 * s + 13) (37 * p + 6 * pl + 13) 6)) : Ev X k_X3_dropItem (12, [some (vr 5), some (vi (p : Int)), some (vi (s : Int)), some (vi (pl : Int)), v4], []) (MS I J cc ss) (PV cc ss none (fun I' J' => J' = J ∧ onlyR 5 I0 I' ∧ PRep I' J 5 (upd1 (shD g (37 * p + 6 * s + 13) (37 * p + 6 * (n - 1) + 13) 6) (37 * p + 12) ((n - 1 : Nat) : Int)))) := by
  have e11 : (shD g (37 * p + 6 * s + 13) (37 * p + 6 * pl + 13) 6) 11 = g 11 := shD_out (by omega)
  have h8 : (shD g (37 * p + 6 * s + 13) (37 * p + 6 * pl + 13) 6) 11 ≤ 8 := by rw [e11]; exact hg8
  have ec : ∀ q : Nat, (q : Int) < g 11 → (shD g (37 * p + 6 * s + 13) (37 * p + 6 * pl + 13) 6) (37 * q + 12) = g (37 * q + 12) := fun q hq => shD_out (by
    have := hg6 q hq
    rcases Nat.lt_trichotomy q p with z | z | z <;> omega)
  have h6 : ∀ q : Nat, (q : Int) < (shD g (37 * p + 6 * s + 13) (37 * p + 6 * pl + 13) 6) 11 → (shD g (37 * p + 6 * s + 13) (37 * p + 6 * pl + 13) 6) (37 * q + 12) ≤ 6 := fun q hq => by
    rw [e11] at hq
    rw [ec q hq]; exact hg6 q hq
  have ecp := ec p hp
  refine ev_n (fr' := (18, [some (vr 5), some (vi (p : Int)), some (vi (s : Int)), some (vi (pl : Int)), v4], [vi (p : Int), vr 7, vi (pl : Int)])) (S' := MS I J cc ss) 4 rfl ?_
  refine ev_iaN (j := p) (z := (n : Int)) rfl rfl (by omega) (by omega) (((hR.2.2 _ (by omega)).2.1.trans ecp).trans hn) ?_
  show Ev X k_X3_dropItem (19, [some (vr 5), some (vi (p : Int)), some (vi (s : Int)), some (vi (pl : Int)), v4], [vi (n : Int), vi (pl : Int)]) (MS I J cc ss) _
  refine ev_n (fr' := (20, [some (vr 5), some (vi (p : Int)), some (vi (s : Int)), some (vi (pl : Int)), v4], [vi 1, vi (n : Int), vi (pl : Int)])) (S' := MS I J cc ss) 1 rfl ?_
  refine ev_sub (z := (n : Int) - 1) rfl (by omega) (by omega) (by omega) ?_
  show Ev X k_X3_dropItem (21, [some (vr 5), some (vi (p : Int)), some (vi (s : Int)), some (vi (pl : Int)), v4], [vi ((n : Int) - 1), vi (pl : Int)]) (MS I J cc ss) _
  refine ev_ic (c := .ge) (off := 45) rfl (by decide) (fun (g1 : (n : Int) - 1 ≤ (pl : Int)) => ?_) (fun (g1 : ¬ ((n : Int) - 1 ≤ (pl : Int))) => ?_)
  · show Ev X k_X3_dropItem (66, [some (vr 5), some (vi (p : Int)), some (vi (s : Int)), some (vi (pl : Int)), v4], []) (MS I J cc ss) _
    refine ev_n (fr' := (72, [some (vr 5), some (vi (p : Int)), some (vi (s : Int)), some (vi (pl : Int)), v4], [vi (p : Int), vr 7, vi (p : Int), vr 7])) (S' := MS I J cc ss) 4 rfl ?_
    refine ev_iaN (j := p) (z := (n : Int)) rfl rfl (by omega) (by omega) (((hR.2.2 _ (by omega)).2.1.trans ecp).trans hn) ?_
    show Ev X k_X3_dropItem (73, [some (vr 5), some (vi (p : Int)), some (vi (s : Int)), some (vi (pl : Int)), v4], [vi (n : Int), vi (p : Int), vr 7]) (MS I J cc ss) _
    refine ev_n (fr' := (74, [some (vr 5), some (vi (p : Int)), some (vi (s : Int)), some (vi (pl : Int)), v4], [vi 1, vi (n : Int), vi (p : Int), vr 7])) (S' := MS I J cc ss) 1 rfl ?_
    refine ev_sub (z := (n : Int) - 1) rfl (by omega) (by omega) (by omega) ?_
    show Ev X k_X3_dropItem (75, [some (vr 5), some (vi (p : Int)), some (vi (s : Int)), some (vi (pl : Int)), v4], [vi ((n : Int) - 1), vi (p : Int), vr 7]) (MS I J cc ss) _
    refine ev_iasN (j := p) rfl rfl (by omega) (by omega) ?_
    show Ev X k_X3_dropItem (76, [some (vr 5), some (vi (p : Int)), some (vi (s : Int)), some (vi (pl : Int)), v4], []) (MS (up2 I 7 p ((n : Int) - 1)) J cc ss) _
    refine ev_r rfl rfl rfl ?_
    have e9 : pl = n - 1 := by omega
    rw [e9] at hR h8 h6 ecp e11
    have hPc := PRep.cnt hR (p := p) (n := ((n - 1 : Nat) : Int)) (by omega) h8 h6 (by omega)
    rw [show (n : Int) - 1 = ((n - 1 : Nat) : Int) by omega]
    exact ⟨_, _, rfl, rfl, rfl, fun a h1 h2 => by rw [up2_row _ _ _ _ h1]; exact hO a h1 h2, hPc⟩
  · show Ev X k_X3_dropItem (24, [some (vr 5), some (vi (p : Int)), some (vi (s : Int)), some (vi (pl : Int)), v4], []) (MS I J cc ss) _
    refine ev_n (fr' := (27, [some (vr 5), some (vi (p : Int)), some (vi (s : Int)), some (vi (pl : Int)), some (vi 0)], [])) (S' := MS I J cc ss) 2 rfl ?_
    refine li_drop_5 X _ _ cc ss I0 p s n hg8 hg6 hp hn hn6 hs pl (by omega) 0 (by omega) hO (by rw [show 37 * p + 6 * pl + 0 + 13 = 37 * p + 6 * pl + 13 by omega]; exact hR) (fun I1 hO hR => ?_)
    show Ev X k_X3_dropItem (60, [some (vr 5), some (vi (p : Int)), some (vi (s : Int)), some (vi (pl : Int)), some (vi 6)], []) (MS I1 J cc ss) _
    refine ev_inc (z := (pl : Int) + 1) rfl rfl (by omega) (by omega) (by omega) rfl ?_
    show Ev X k_X3_dropItem (63, [some (vr 5), some (vi (p : Int)), some (vi (s : Int)), some (vi ((pl : Int) + 1)), some (vi 6)], []) (MS I1 J cc ss) _
    refine ev_n (fr' := (12, [some (vr 5), some (vi (p : Int)), some (vi (s : Int)), some (vi ((pl : Int) + 1)), some (vi 6)], [])) (S' := MS I1 J cc ss) 1 rfl ?_
    exact lp_drop_5 X _ _ cc ss I0 p s n hg8 hg6 hp hn hn6 hs (pl + 1) _ (by omega) hO hR
termination_by 7 - pl
decreasing_by all_goals omega
theorem sp_dropItem_5 (X : AX) (I J : Nat → Nat → Int) (cc ss : Nat) {g : F1} (p s n : Nat) (hP : PRep I J 5 g) (hwp : WP g) (hp : (p : Int) < g 11) (hn : g (37 * p + 12) = (n : Int)) (hn6 : n ≤ 6) (hs : s < n) : Ev X k_X3_dropItem (0, [some (vr 5), some (vi (p : Int)), some (vi (s : Int)), none, none], []) (MS I J cc ss) (PV cc ss none (fun I' J' => J' = J ∧ onlyR 5 I I' ∧ PRep I' J 5 (upd1 (shD g (37 * p + 6 * s + 13) (37 * p + 6 * (n - 1) + 13) 6) (37 * p + 12) ((n - 1 : Nat) : Int)))) := by
  have hg8 := hwp.2.1
  have hg6 : ∀ q : Nat, (q : Int) < g 11 → g (37 * q + 12) ≤ 6 := fun q hq => (hwp.2.2 q hq).2.1
  refine ev_n (fr' := (3, [some (vr 5), some (vi (p : Int)), some (vi (s : Int)), none, none], [vi (s : Int), vi (p : Int), vr 5])) (S' := MS I J cc ss) 3 rfl ?_
  refine ev_cv rfl rfl rfl ⟨Nat.le_of_ble_eq_true rfl, Nat.le_of_ble_eq_true rfl⟩ (sp_hasItem_5 X _ _ _ _ (p : Int) (s : Int) hP hwp) ?_
  show Ev X k_X3_dropItem (6, [some (vr 5), some (vi (p : Int)), some (vi (s : Int)), none, none], [vi (if 0 ≤ (p : Int) ∧ (p : Int) < g 11 ∧ 0 ≤ (s : Int) ∧ (s : Int) < g (37 * (p : Int).toNat + 12) then 1 else 0)]) (MS I J cc ss) _
  refine ev_bne _ rfl (by decide) (fun (g1 : 0 ≤ (p : Int) ∧ (p : Int) < g 11 ∧ 0 ≤ (s : Int) ∧ (s : Int) < g (37 * (p : Int).toNat + 12)) => ?_) (fun (g1 : ¬ (0 ≤ (p : Int) ∧ (p : Int) < g 11 ∧ 0 ≤ (s : Int) ∧ (s : Int) < g (37 * (p : Int).toNat + 12))) => False.elim (g1 ⟨by omega, by omega, by omega, by rw [Int.toNat_natCast]; omega⟩))
  show Ev X k_X3_dropItem (10, [some (vr 5), some (vi (p : Int)), some (vi (s : Int)), none, none], []) (MS I J cc ss) _
  refine ev_n (fr' := (12, [some (vr 5), some (vi (p : Int)), some (vi (s : Int)), some (vi (s : Int)), none], [])) (S' := MS I J cc ss) 2 rfl ?_
  exact lp_drop_5 X _ _ cc ss I p s n hg8 hg6 hp hn hn6 hs s _ (by omega) (fun _ _ _ => rfl) (by rw [shD_0]; exact hP)
theorem li_drop_9 (X : AX) (I J : Nat → Nat → Int) (cc ss : Nat) {Q : (Option AV ⊕ Nat) → AS → Prop} {g : F1} (I0 : F2) (p s n : Nat) (hg8 : g 308 ≤ 8) (hg6 : ∀ q : Nat, (q : Int) < g 308 → g (19 * q + 309) ≤ 6) (hp : (p : Int) < g 308) (hn : g (19 * p + 309) = (n : Int)) (hn6 : n ≤ 6) (hs : s < n) (pl : Nat) (hpl : s ≤ pl ∧ pl + 1 < n) (w : Nat) (hw : w ≤ 3) (hO : onlyR 9 I0 I) (hR : IRep I J 9 (shD g (19 * p + 3 * s + 310) (19 * p + 3 * pl + w + 310) 3)) (K : ∀ (I' : F2), onlyR 9 I0 I' → IRep I' J 9 (shD g (19 * p + 3 * s + 310) (19 * p + 3 * (pl + 1) + 310) 3) → Ev X k_X3_dropItem (60, [some (vr 9), some (vi (p : Int)), some (vi (s : Int)), some (vi (pl : Int)), some (vi 3)], []) (MS I' J cc ss) Q) : Ev X k_X3_dropItem (27, [some (vr 9), some (vi (p : Int)), some (vi (s : Int)), some (vi (pl : Int)), some (vi (w : Int))], []) (MS I J cc ss) (Q) := by
  have e11 : (shD g (19 * p + 3 * s + 310) (19 * p + 3 * pl + w + 310) 3) 308 = g 308 := shD_out (by omega)
  have h8 : (shD g (19 * p + 3 * s + 310) (19 * p + 3 * pl + w + 310) 3) 308 ≤ 8 := by rw [e11]; exact hg8
  have ec : ∀ q : Nat, (q : Int) < g 308 → (shD g (19 * p + 3 * s + 310) (19 * p + 3 * pl + w + 310) 3) (19 * q + 309) = g (19 * q + 309) := fun q hq => shD_out (by
    have := hg6 q hq
    rcases Nat.lt_trichotomy q p with z | z | z <;> omega)
  have h6 : ∀ q : Nat, (q : Int) < (shD g (19 * p + 3 * s + 310) (19 * p + 3 * pl + w + 310) 3) 308 → (shD g (19 * p + 3 * s + 310) (19 * p + 3 * pl + w + 310) 3) (19 * q + 309) ≤ 6 := fun q hq => by
    rw [e11] at hq
    rw [ec q hq]; exact hg6 q hq
  have ecp := ec p hp
  refine ev_n (fr' := (33, [some (vr 9), some (vi (p : Int)), some (vi (s : Int)), some (vi (pl : Int)), some (vi (w : Int))], [vi (I 9 0), vi (w : Int)])) (S' := MS I J cc ss) 3 rfl ?_
  refine ev_eqi (hR.1) ?_
  show Ev X k_X3_dropItem (33, [some (vr 9), some (vi (p : Int)), some (vi (s : Int)), some (vi (pl : Int)), some (vi (w : Int))], [vi 3, vi (w : Int)]) (MS I J cc ss) _
  refine ev_ic (c := .ge) (off := 27) rfl (by decide) (fun (g1 : 3 ≤ (w : Int)) => ?_) (fun (g1 : ¬ (3 ≤ (w : Int))) => ?_)
  · show Ev X k_X3_dropItem (60, [some (vr 9), some (vi (p : Int)), some (vi (s : Int)), some (vi (pl : Int)), some (vi (w : Int))], []) (MS I J cc ss) _
    have e9 : w = 3 := by omega
    rw [e9] at hR ⊢
    exact K I hO (by rw [show 19 * p + 3 * (pl + 1) + 310 = 19 * p + 3 * pl + 3 + 310 by omega]; exact hR)
  · show Ev X k_X3_dropItem (36, [some (vr 9), some (vi (p : Int)), some (vi (s : Int)), some (vi (pl : Int)), some (vi (w : Int))], []) (MS I J cc ss) _
    refine ev_n (fr' := (45, [some (vr 9), some (vi (p : Int)), some (vi (s : Int)), some (vi (pl : Int)), some (vi (w : Int))], [vi 1, vi (pl : Int), vi (p : Int), vr 9, vi (w : Int), vi (pl : Int), vi (p : Int), vr 9])) (S' := MS I J cc ss) 8 rfl ?_
    refine ev_add (z := (pl : Int) + 1) rfl (by omega) (by omega) (by omega) ?_
    show Ev X k_X3_dropItem (46, [some (vr 9), some (vi (p : Int)), some (vi (s : Int)), some (vi (pl : Int)), some (vi (w : Int))], [vi ((pl : Int) + 1), vi (p : Int), vr 9, vi (w : Int), vi (pl : Int), vi (p : Int), vr 9]) (MS I J cc ss) _
    refine ev_n (fr' := (48, [some (vr 9), some (vi (p : Int)), some (vi (s : Int)), some (vi (pl : Int)), some (vi (w : Int))], [vi (w : Int), vi ((pl : Int) + 1), vi (p : Int), vr 9, vi (w : Int), vi (pl : Int), vi (p : Int), vr 9])) (S' := MS I J cc ss) 1 rfl ?_
    refine ev_cv rfl rfl rfl ⟨Nat.le_of_ble_eq_true rfl, Nat.le_of_ble_eq_true rfl⟩ (sp_number2_9 X _ _ _ _ p (pl + 1) w hR h8 h6 (by omega) (by omega) (by omega)) ?_
    show Ev X k_X3_dropItem (51, [some (vr 9), some (vi (p : Int)), some (vi (s : Int)), some (vi (pl : Int)), some (vi (w : Int))], [vi ((shD g (19 * p + 3 * s + 310) (19 * p + 3 * pl + w + 310) 3) (19 * p + 3 * (pl + 1) + w + 310)), vi (w : Int), vi (pl : Int), vi (p : Int), vr 9]) (MS I J cc ss) _
    refine ev_cv rfl rfl rfl ⟨Nat.le_of_ble_eq_true rfl, Nat.le_of_ble_eq_true rfl⟩ (sp_putNumber_9 X _ _ _ _ p pl w (((shD g (19 * p + 3 * s + 310) (19 * p + 3 * pl + w + 310) 3) (19 * p + 3 * (pl + 1) + w + 310))) hR h8 h6 (by omega) (by omega) (by omega)) ?_
    show Ev X k_X3_dropItem (54, [some (vr 9), some (vi (p : Int)), some (vi (s : Int)), some (vi (pl : Int)), some (vi (w : Int))], []) (MS (up2 I 12 (18 * p + 3 * pl + w) ((shD g (19 * p + 3 * s + 310) (19 * p + 3 * pl + w + 310) 3) (19 * p + 3 * (pl + 1) + w + 310))) J cc ss) _
    refine ev_inc (z := (w : Int) + 1) rfl rfl (by omega) (by omega) (by omega) rfl ?_
    show Ev X k_X3_dropItem (57, [some (vr 9), some (vi (p : Int)), some (vi (s : Int)), some (vi (pl : Int)), some (vi ((w : Int) + 1))], []) (MS (up2 I 12 (18 * p + 3 * pl + w) ((shD g (19 * p + 3 * s + 310) (19 * p + 3 * pl + w + 310) 3) (19 * p + 3 * (pl + 1) + w + 310))) J cc ss) _
    refine ev_n (fr' := (27, [some (vr 9), some (vi (p : Int)), some (vi (s : Int)), some (vi (pl : Int)), some (vi ((w : Int) + 1))], [])) (S' := MS (up2 I 12 (18 * p + 3 * pl + w) ((shD g (19 * p + 3 * s + 310) (19 * p + 3 * pl + w + 310) 3) (19 * p + 3 * (pl + 1) + w + 310))) J cc ss) 1 rfl ?_
    have hPn := IRep.put hR (p := p) (s := pl) (w := w) (v := ((shD g (19 * p + 3 * s + 310) (19 * p + 3 * pl + w + 310) 3) (19 * p + 3 * (pl + 1) + w + 310))) (by omega) h8 h6 (by omega) (by omega)
    have hsh := shD_next g (19 * p + 3 * s + 310) (19 * p + 3 * pl + w + 310) 3 (by omega) (by omega)
    rw [show (19 * p + 3 * pl + w + 310) + 3 = 19 * p + 3 * (pl + 1) + w + 310 by omega] at hsh
    rw [hsh, show (19 * p + 3 * pl + w + 310) + 1 = 19 * p + 3 * pl + (w + 1) + 310 by omega] at hPn
    exact li_drop_9 X _ _ cc ss I0 p s n hg8 hg6 hp hn hn6 hs pl hpl (w + 1) (by omega) (fun a h1 h2 => by rw [up2_row _ _ _ _ h2]; exact hO a h1 h2) hPn K
termination_by 7 - w
decreasing_by all_goals omega
theorem lp_drop_9 (X : AX) (I J : Nat → Nat → Int) (cc ss : Nat) {g : F1} (I0 : F2) (p s n : Nat) (hg8 : g 308 ≤ 8) (hg6 : ∀ q : Nat, (q : Int) < g 308 → g (19 * q + 309) ≤ 6) (hp : (p : Int) < g 308) (hn : g (19 * p + 309) = (n : Int)) (hn6 : n ≤ 6) (hs : s < n) (pl : Nat) (v4 : Option AV) (hpl : s ≤ pl ∧ pl + 1 ≤ n) (hO : onlyR 9 I0 I) (hR : IRep I J 9 (shD g (19 * p + 3 * s + 310) (19 * p + 3 * pl + 310) 3)) : Ev X k_X3_dropItem (12, [some (vr 9), some (vi (p : Int)), some (vi (s : Int)), some (vi (pl : Int)), v4], []) (MS I J cc ss) (PV cc ss none (fun I' J' => J' = J ∧ onlyR 9 I0 I' ∧ IRep I' J 9 (upd1 (shD g (19 * p + 3 * s + 310) (19 * p + 3 * (n - 1) + 310) 3) (19 * p + 309) ((n - 1 : Nat) : Int)))) := by
  have e11 : (shD g (19 * p + 3 * s + 310) (19 * p + 3 * pl + 310) 3) 308 = g 308 := shD_out (by omega)
  have h8 : (shD g (19 * p + 3 * s + 310) (19 * p + 3 * pl + 310) 3) 308 ≤ 8 := by rw [e11]; exact hg8
  have ec : ∀ q : Nat, (q : Int) < g 308 → (shD g (19 * p + 3 * s + 310) (19 * p + 3 * pl + 310) 3) (19 * q + 309) = g (19 * q + 309) := fun q hq => shD_out (by
    have := hg6 q hq
    rcases Nat.lt_trichotomy q p with z | z | z <;> omega)
  have h6 : ∀ q : Nat, (q : Int) < (shD g (19 * p + 3 * s + 310) (19 * p + 3 * pl + 310) 3) 308 → (shD g (19 * p + 3 * s + 310) (19 * p + 3 * pl + 310) 3) (19 * q + 309) ≤ 6 := fun q hq => by
    rw [e11] at hq
    rw [ec q hq]; exact hg6 q hq
  have ecp := ec p hp
  refine ev_n (fr' := (18, [some (vr 9), some (vi (p : Int)), some (vi (s : Int)), some (vi (pl : Int)), v4], [vi (p : Int), vr 11, vi (pl : Int)])) (S' := MS I J cc ss) 4 rfl ?_
  refine ev_iaN (j := p) (z := (n : Int)) rfl rfl (by omega) (by omega) (((hR.2.2 _ (by omega)).2.1.trans ecp).trans hn) ?_
  show Ev X k_X3_dropItem (19, [some (vr 9), some (vi (p : Int)), some (vi (s : Int)), some (vi (pl : Int)), v4], [vi (n : Int), vi (pl : Int)]) (MS I J cc ss) _
  refine ev_n (fr' := (20, [some (vr 9), some (vi (p : Int)), some (vi (s : Int)), some (vi (pl : Int)), v4], [vi 1, vi (n : Int), vi (pl : Int)])) (S' := MS I J cc ss) 1 rfl ?_
  refine ev_sub (z := (n : Int) - 1) rfl (by omega) (by omega) (by omega) ?_
  show Ev X k_X3_dropItem (21, [some (vr 9), some (vi (p : Int)), some (vi (s : Int)), some (vi (pl : Int)), v4], [vi ((n : Int) - 1), vi (pl : Int)]) (MS I J cc ss) _
  refine ev_ic (c := .ge) (off := 45) rfl (by decide) (fun (g1 : (n : Int) - 1 ≤ (pl : Int)) => ?_) (fun (g1 : ¬ ((n : Int) - 1 ≤ (pl : Int))) => ?_)
  · show Ev X k_X3_dropItem (66, [some (vr 9), some (vi (p : Int)), some (vi (s : Int)), some (vi (pl : Int)), v4], []) (MS I J cc ss) _
    refine ev_n (fr' := (72, [some (vr 9), some (vi (p : Int)), some (vi (s : Int)), some (vi (pl : Int)), v4], [vi (p : Int), vr 11, vi (p : Int), vr 11])) (S' := MS I J cc ss) 4 rfl ?_
    refine ev_iaN (j := p) (z := (n : Int)) rfl rfl (by omega) (by omega) (((hR.2.2 _ (by omega)).2.1.trans ecp).trans hn) ?_
    show Ev X k_X3_dropItem (73, [some (vr 9), some (vi (p : Int)), some (vi (s : Int)), some (vi (pl : Int)), v4], [vi (n : Int), vi (p : Int), vr 11]) (MS I J cc ss) _
    refine ev_n (fr' := (74, [some (vr 9), some (vi (p : Int)), some (vi (s : Int)), some (vi (pl : Int)), v4], [vi 1, vi (n : Int), vi (p : Int), vr 11])) (S' := MS I J cc ss) 1 rfl ?_
    refine ev_sub (z := (n : Int) - 1) rfl (by omega) (by omega) (by omega) ?_
    show Ev X k_X3_dropItem (75, [some (vr 9), some (vi (p : Int)), some (vi (s : Int)), some (vi (pl : Int)), v4], [vi ((n : Int) - 1), vi (p : Int), vr 11]) (MS I J cc ss) _
    refine ev_iasN (j := p) rfl rfl (by omega) (by omega) ?_
    show Ev X k_X3_dropItem (76, [some (vr 9), some (vi (p : Int)), some (vi (s : Int)), some (vi (pl : Int)), v4], []) (MS (up2 I 11 p ((n : Int) - 1)) J cc ss) _
    refine ev_r rfl rfl rfl ?_
    have e9 : pl = n - 1 := by omega
    rw [e9] at hR h8 h6 ecp e11
    have hPc := IRep.cnt hR (p := p) (n := ((n - 1 : Nat) : Int)) (by omega) h8 h6 (by omega)
    rw [show (n : Int) - 1 = ((n - 1 : Nat) : Int) by omega]
    exact ⟨_, _, rfl, rfl, rfl, fun a h1 h2 => by rw [up2_row _ _ _ _ h1]; exact hO a h1 h2, hPc⟩
  · show Ev X k_X3_dropItem (24, [some (vr 9), some (vi (p : Int)), some (vi (s : Int)), some (vi (pl : Int)), v4], []) (MS I J cc ss) _
    refine ev_n (fr' := (27, [some (vr 9), some (vi (p : Int)), some (vi (s : Int)), some (vi (pl : Int)), some (vi 0)], [])) (S' := MS I J cc ss) 2 rfl ?_
    refine li_drop_9 X _ _ cc ss I0 p s n hg8 hg6 hp hn hn6 hs pl (by omega) 0 (by omega) hO (by rw [show 19 * p + 3 * pl + 0 + 310 = 19 * p + 3 * pl + 310 by omega]; exact hR) (fun I1 hO hR => ?_)
    show Ev X k_X3_dropItem (60, [some (vr 9), some (vi (p : Int)), some (vi (s : Int)), some (vi (pl : Int)), some (vi 3)], []) (MS I1 J cc ss) _
    refine ev_inc (z := (pl : Int) + 1) rfl rfl (by omega) (by omega) (by omega) rfl ?_
    show Ev X k_X3_dropItem (63, [some (vr 9), some (vi (p : Int)), some (vi (s : Int)), some (vi ((pl : Int) + 1)), some (vi 3)], []) (MS I1 J cc ss) _
    refine ev_n (fr' := (12, [some (vr 9), some (vi (p : Int)), some (vi (s : Int)), some (vi ((pl : Int) + 1)), some (vi 3)], [])) (S' := MS I1 J cc ss) 1 rfl ?_
    exact lp_drop_9 X _ _ cc ss I0 p s n hg8 hg6 hp hn hn6 hs (pl + 1) _ (by omega) hO hR
termination_by 7 - pl
decreasing_by all_goals omega
theorem sp_dropItem_9 (X : AX) (I J : Nat → Nat → Int) (cc ss : Nat) {g : F1} (p s n : Nat) (hI : IRep I J 9 g) (hwi : WI g) (hp : (p : Int) < g 308) (hn : g (19 * p + 309) = (n : Int)) (hn6 : n ≤ 6) (hs : s < n) : Ev X k_X3_dropItem (0, [some (vr 9), some (vi (p : Int)), some (vi (s : Int)), none, none], []) (MS I J cc ss) (PV cc ss none (fun I' J' => J' = J ∧ onlyR 9 I I' ∧ IRep I' J 9 (upd1 (shD g (19 * p + 3 * s + 310) (19 * p + 3 * (n - 1) + 310) 3) (19 * p + 309) ((n - 1 : Nat) : Int)))) := by
  have hg8 := hwi.2.1
  have hg6 : ∀ q : Nat, (q : Int) < g 308 → g (19 * q + 309) ≤ 6 := fun q hq => (hwi.2.2 q hq).2.1
  refine ev_n (fr' := (3, [some (vr 9), some (vi (p : Int)), some (vi (s : Int)), none, none], [vi (s : Int), vi (p : Int), vr 9])) (S' := MS I J cc ss) 3 rfl ?_
  refine ev_cv rfl rfl rfl ⟨Nat.le_of_ble_eq_true rfl, Nat.le_of_ble_eq_true rfl⟩ (sp_hasItem_9 X _ _ _ _ (p : Int) (s : Int) hI hwi) ?_
  show Ev X k_X3_dropItem (6, [some (vr 9), some (vi (p : Int)), some (vi (s : Int)), none, none], [vi (if 0 ≤ (p : Int) ∧ (p : Int) < g 308 ∧ 0 ≤ (s : Int) ∧ (s : Int) < g (19 * (p : Int).toNat + 309) then 1 else 0)]) (MS I J cc ss) _
  refine ev_bne _ rfl (by decide) (fun (g1 : 0 ≤ (p : Int) ∧ (p : Int) < g 308 ∧ 0 ≤ (s : Int) ∧ (s : Int) < g (19 * (p : Int).toNat + 309)) => ?_) (fun (g1 : ¬ (0 ≤ (p : Int) ∧ (p : Int) < g 308 ∧ 0 ≤ (s : Int) ∧ (s : Int) < g (19 * (p : Int).toNat + 309))) => False.elim (g1 ⟨by omega, by omega, by omega, by rw [Int.toNat_natCast]; omega⟩))
  show Ev X k_X3_dropItem (10, [some (vr 9), some (vi (p : Int)), some (vi (s : Int)), none, none], []) (MS I J cc ss) _
  refine ev_n (fr' := (12, [some (vr 9), some (vi (p : Int)), some (vi (s : Int)), some (vi (s : Int)), none], [])) (S' := MS I J cc ss) 2 rfl ?_
  exact lp_drop_9 X _ _ cc ss I p s n hg8 hg6 hp hn hn6 hs s _ (by omega) (fun _ _ _ => rfl) (by rw [shD_0]; exact hI)
