/-! PUBLIC QUESTIONS, reference: written icons (printed by gen/g83.py) -/
theorem wb_at {D : Nat → Nat → Bool} {n r c : Nat} (hc : c ≤ n) : wbF D n (r * (n + 1) + c) = if c = n then 10 else if D r c = true then 35 else 46 := by
  unfold wbF
  have h1 : (r * (n + 1) + c) % (n + 1) = c := by rw [Nat.add_comm, Nat.add_mul_mod_self_right]; exact Nat.mod_eq_of_lt (by omega)
  have h2 : (r * (n + 1) + c) / (n + 1) = r := by rw [Nat.add_comm, Nat.add_mul_div_right _ _ (by omega), Nat.div_eq_of_lt (by omega)]; omega
  rw [h1, h2]
theorem row_le {n r b : Nat} (hn : n ≤ 32) (hr : r < n) (hb : b = r * (n + 1)) : b + n + 1 ≤ 1056 := by
  have h1 : (r + 1) * (n + 1) ≤ n * (n + 1) := Nat.mul_le_mul_right _ hr
  have h2 := area_le hn
  rw [Nat.add_mul] at h1
  omega
def onlyV (I I' : F2) : Prop := (∀ a, a ≠ 135 → a ≠ 144 → I' a = I a) ∧ ∀ f, f ≠ 22 → I' 135 f = I 135 f
def WR (I : F2) (D : Nat → Nat → Bool) (n m : Nat) : Prop := I 135 22 = (m : Int) ∧ ∀ x, x < m → I 144 x = wbF D n x
theorem onlyV.put {I0 I : F2} {k : Nat} {v w : Int} (h : onlyV I0 I) : onlyV I0 (up2 (up2 I 144 k v) 135 22 w) := ⟨fun a h1 h2 => by rw [up2_row _ _ _ _ h1, up2_row _ _ _ _ h2]; exact h.1 a h1 h2, fun f hf => by rw [up2_ne2 _ _ _ _ hf, up2_row _ _ _ _ (by decide)]; exact h.2 f hf⟩
theorem WR.put {I : F2} {D : Nat → Nat → Bool} {n m : Nat} {v w : Int} (h : WR I D n m) (hv : v = wbF D n m) (hw : w = (m : Int) + 1) : WR (up2 (up2 I 144 m v) 135 22 w) D n (m + 1) := by
  refine ⟨by rw [up2_same, hw]; omega, fun x hx => ?_⟩
  rw [up2_row _ _ _ _ (by decide)]
  by_cases e : x = m
  · rw [e, up2_same, hv]
  · rw [up2_ne2 _ _ _ _ e]; exact h.2 x (by omega)
theorem DM.wr {I : F2} {D : Nat → Nat → Bool} {k : Nat} {v w : Int} (h : DM I D) : DM (up2 (up2 I 144 k v) 135 22 w) D := DM.cell (by rw [up2_row _ _ _ _ (by decide), up2_row _ _ _ _ (by decide)]) h
theorem li_rwr (X : AX) (I J : Nat → Nat → Int) (cc ss : Nat) {Q : (Option AV ⊕ Nat) → AS → Prop} {D : Nat → Nat → Bool} (I0 : F2) (n : Nat) (hn : n ≤ 32) (a1 a2 : Int) (r b : Nat) (hr : r < n) (hb : b = r * (n + 1)) (c : Nat) (hc : c ≤ n + 1) (hV : onlyV I0 I) (hD : DM I D) (hW : I 135 17 = (n : Int)) (hR : WR I D n (b + c)) (K : ∀ I' : F2, onlyV I0 I' → DM I' D → I' 135 17 = (n : Int) → WR I' D n (b + (n + 1)) → Ev X k_X9_writeIcon (121, [some (vr 135), some (vi a1), some (vi a2), some (vi (r : Int)), some (vi ((n : Int) + 1))], []) (MS I' J cc ss) Q) : Ev X k_X9_writeIcon (51, [some (vr 135), some (vi a1), some (vi a2), some (vi (r : Int)), some (vi (c : Int))], []) (MS I J cc ss) (Q) := by
  have hbb := row_le hn hr hb
  refine ev_n (fr' := (57, [some (vr 135), some (vi a1), some (vi a2), some (vi (r : Int)), some (vi (c : Int))], [vi (I 135 17), vi (c : Int)])) (S' := MS I J cc ss) 3 rfl ?_
  refine ev_eqi (hW) ?_
  show Ev X k_X9_writeIcon (57, [some (vr 135), some (vi a1), some (vi a2), some (vi (r : Int)), some (vi (c : Int))], [vi (n : Int), vi (c : Int)]) (MS I J cc ss) _
  refine ev_ic (c := .gt) (off := 64) rfl (by decide) (fun (g1 : (n : Int) < (c : Int)) => ?_) (fun (g1 : ¬ ((n : Int) < (c : Int))) => ?_)
  · show Ev X k_X9_writeIcon (121, [some (vr 135), some (vi a1), some (vi a2), some (vi (r : Int)), some (vi (c : Int))], []) (MS I J cc ss) _
    have ec : c = n + 1 := by omega
    subst ec
    exact K _ hV hD hW hR
  · show Ev X k_X9_writeIcon (60, [some (vr 135), some (vi a1), some (vi a2), some (vi (r : Int)), some (vi (c : Int))], []) (MS I J cc ss) _
    refine ev_n (fr' := (68, [some (vr 135), some (vi a1), some (vi a2), some (vi (r : Int)), some (vi (c : Int))], [vi (I 135 22), vr 144])) (S' := MS I J cc ss) 4 rfl ?_
    refine ev_eqi (hR.1) ?_
    show Ev X k_X9_writeIcon (68, [some (vr 135), some (vi a1), some (vi a2), some (vi (r : Int)), some (vi (c : Int))], [vi ((b : Int) + (c : Int)), vr 144]) (MS I J cc ss) _
    refine ev_n (fr' := (74, [some (vr 135), some (vi a1), some (vi a2), some (vi (r : Int)), some (vi (c : Int))], [vi (I 135 17), vi (c : Int), vi ((b : Int) + (c : Int)), vr 144])) (S' := MS I J cc ss) 3 rfl ?_
    refine ev_eqi (hW) ?_
    show Ev X k_X9_writeIcon (74, [some (vr 135), some (vi a1), some (vi a2), some (vi (r : Int)), some (vi (c : Int))], [vi (n : Int), vi (c : Int), vi ((b : Int) + (c : Int)), vr 144]) (MS I J cc ss) _
    refine ev_ic (c := .ne) (off := 8) rfl (by decide) (fun (g2 : (c : Int) ≠ (n : Int)) => ?_) (fun (g2 : ¬ ((c : Int) ≠ (n : Int))) => ?_)
    · show Ev X k_X9_writeIcon (82, [some (vr 135), some (vi a1), some (vi a2), some (vi (r : Int)), some (vi (c : Int))], [vi ((b : Int) + (c : Int)), vr 144]) (MS I J cc ss) _
      refine ev_n (fr' := (89, [some (vr 135), some (vi a1), some (vi a2), some (vi (r : Int)), some (vi (c : Int))], [vi (r : Int), vi 32, vr 140, vi ((b : Int) + (c : Int)), vr 144])) (S' := MS I J cc ss) 4 rfl ?_
      refine ev_mul (z := 32 * (r : Int)) rfl (by omega) (by omega) (by omega) ?_
      show Ev X k_X9_writeIcon (90, [some (vr 135), some (vi a1), some (vi a2), some (vi (r : Int)), some (vi (c : Int))], [vi (32 * (r : Int)), vr 140, vi ((b : Int) + (c : Int)), vr 144]) (MS I J cc ss) _
      refine ev_n (fr' := (92, [some (vr 135), some (vi a1), some (vi a2), some (vi (r : Int)), some (vi (c : Int))], [vi (c : Int), vi (32 * (r : Int)), vr 140, vi ((b : Int) + (c : Int)), vr 144])) (S' := MS I J cc ss) 1 rfl ?_
      refine ev_add (z := 32 * (r : Int) + (c : Int)) rfl (by omega) (by omega) (by omega) ?_
      show Ev X k_X9_writeIcon (93, [some (vr 135), some (vi a1), some (vi a2), some (vi (r : Int)), some (vi (c : Int))], [vi (32 * (r : Int) + (c : Int)), vr 140, vi ((b : Int) + (c : Int)), vr 144]) (MS I J cc ss) _
      refine ev_baN (j := 32 * r + c) (z := (if D r c = true then 1 else 0)) rfl rfl (by omega) (by omega) (hD r c (by omega) (by omega)) ?_
      show Ev X k_X9_writeIcon (94, [some (vr 135), some (vi a1), some (vi a2), some (vi (r : Int)), some (vi (c : Int))], [vi (if D r c = true then 1 else 0), vi ((b : Int) + (c : Int)), vr 144]) (MS I J cc ss) _
      refine ev_beq _ rfl (by decide) (fun (g3 : ¬ (D r c = true)) => ?_) (fun (g3 : D r c = true) => ?_)
      · show Ev X k_X9_writeIcon (102, [some (vr 135), some (vi a1), some (vi a2), some (vi (r : Int)), some (vi (c : Int))], [vi ((b : Int) + (c : Int)), vr 144]) (MS I J cc ss) _
        refine ev_n (fr' := (104, [some (vr 135), some (vi a1), some (vi a2), some (vi (r : Int)), some (vi (c : Int))], [vi 46, vi ((b : Int) + (c : Int)), vr 144])) (S' := MS I J cc ss) 1 rfl ?_
        refine ev_iasN (j := b + c) rfl rfl (by omega) (by omega) ?_
        show Ev X k_X9_writeIcon (105, [some (vr 135), some (vi a1), some (vi a2), some (vi (r : Int)), some (vi (c : Int))], []) (MS (up2 I 144 (b + c) 46) J cc ss) _
        refine ev_n (fr' := (110, [some (vr 135), some (vi a1), some (vi a2), some (vi (r : Int)), some (vi (c : Int))], [vi (I 135 22), vr 135])) (S' := MS (up2 I 144 (b + c) 46) J cc ss) 3 rfl ?_
        refine ev_eqi (hR.1) ?_
        show Ev X k_X9_writeIcon (110, [some (vr 135), some (vi a1), some (vi a2), some (vi (r : Int)), some (vi (c : Int))], [vi ((b : Int) + (c : Int)), vr 135]) (MS (up2 I 144 (b + c) 46) J cc ss) _
        refine ev_n (fr' := (111, [some (vr 135), some (vi a1), some (vi a2), some (vi (r : Int)), some (vi (c : Int))], [vi 1, vi ((b : Int) + (c : Int)), vr 135])) (S' := MS (up2 I 144 (b + c) 46) J cc ss) 1 rfl ?_
        refine ev_add (z := (b : Int) + (c : Int) + 1) rfl (by omega) (by omega) (by omega) ?_
        show Ev X k_X9_writeIcon (112, [some (vr 135), some (vi a1), some (vi a2), some (vi (r : Int)), some (vi (c : Int))], [vi ((b : Int) + (c : Int) + 1), vr 135]) (MS (up2 I 144 (b + c) 46) J cc ss) _
        refine ev_n (fr' := (115, [some (vr 135), some (vi a1), some (vi a2), some (vi (r : Int)), some (vi (c : Int))], [])) (S' := MS (up2 (up2 I 144 (b + c) 46) 135 22 ((b : Int) + (c : Int) + 1)) J cc ss) 1 rfl ?_
        refine ev_inc (z := (c : Int) + 1) rfl rfl (by omega) (by omega) (by omega) rfl ?_
        show Ev X k_X9_writeIcon (118, [some (vr 135), some (vi a1), some (vi a2), some (vi (r : Int)), some (vi ((c : Int) + 1))], []) (MS (up2 (up2 I 144 (b + c) 46) 135 22 ((b : Int) + (c : Int) + 1)) J cc ss) _
        refine ev_n (fr' := (51, [some (vr 135), some (vi a1), some (vi a2), some (vi (r : Int)), some (vi ((c : Int) + 1))], [])) (S' := MS (up2 (up2 I 144 (b + c) 46) 135 22 ((b : Int) + (c : Int) + 1)) J cc ss) 1 rfl ?_
        have e9 : 46 = wbF D n (b + c) := by rw [hb, wb_at (by omega)]; exact ((if_neg (by omega)).trans (if_neg g3)).symm
        exact li_rwr X _ _ cc ss I0 n hn a1 a2 r b hr hb (c + 1) (by omega) hV.put hD.wr (by rw [up2_ne2 _ _ _ _ (by decide), up2_row _ _ _ _ (by decide)]; exact hW) (hR.put e9 (by omega)) K
      · show Ev X k_X9_writeIcon (97, [some (vr 135), some (vi a1), some (vi a2), some (vi (r : Int)), some (vi (c : Int))], [vi ((b : Int) + (c : Int)), vr 144]) (MS I J cc ss) _
        refine ev_n (fr' := (104, [some (vr 135), some (vi a1), some (vi a2), some (vi (r : Int)), some (vi (c : Int))], [vi 35, vi ((b : Int) + (c : Int)), vr 144])) (S' := MS I J cc ss) 2 rfl ?_
        refine ev_iasN (j := b + c) rfl rfl (by omega) (by omega) ?_
        show Ev X k_X9_writeIcon (105, [some (vr 135), some (vi a1), some (vi a2), some (vi (r : Int)), some (vi (c : Int))], []) (MS (up2 I 144 (b + c) 35) J cc ss) _
        refine ev_n (fr' := (110, [some (vr 135), some (vi a1), some (vi a2), some (vi (r : Int)), some (vi (c : Int))], [vi (I 135 22), vr 135])) (S' := MS (up2 I 144 (b + c) 35) J cc ss) 3 rfl ?_
        refine ev_eqi (hR.1) ?_
        show Ev X k_X9_writeIcon (110, [some (vr 135), some (vi a1), some (vi a2), some (vi (r : Int)), some (vi (c : Int))], [vi ((b : Int) + (c : Int)), vr 135]) (MS (up2 I 144 (b + c) 35) J cc ss) _
        refine ev_n (fr' := (111, [some (vr 135), some (vi a1), some (vi a2), some (vi (r : Int)), some (vi (c : Int))], [vi 1, vi ((b : Int) + (c : Int)), vr 135])) (S' := MS (up2 I 144 (b + c) 35) J cc ss) 1 rfl ?_
        refine ev_add (z := (b : Int) + (c : Int) + 1) rfl (by omega) (by omega) (by omega) ?_
        show Ev X k_X9_writeIcon (112, [some (vr 135), some (vi a1), some (vi a2), some (vi (r : Int)), some (vi (c : Int))], [vi ((b : Int) + (c : Int) + 1), vr 135]) (MS (up2 I 144 (b + c) 35) J cc ss) _
        refine ev_n (fr' := (115, [some (vr 135), some (vi a1), some (vi a2), some (vi (r : Int)), some (vi (c : Int))], [])) (S' := MS (up2 (up2 I 144 (b + c) 35) 135 22 ((b : Int) + (c : Int) + 1)) J cc ss) 1 rfl ?_
        refine ev_inc (z := (c : Int) + 1) rfl rfl (by omega) (by omega) (by omega) rfl ?_
        show Ev X k_X9_writeIcon (118, [some (vr 135), some (vi a1), some (vi a2), some (vi (r : Int)), some (vi ((c : Int) + 1))], []) (MS (up2 (up2 I 144 (b + c) 35) 135 22 ((b : Int) + (c : Int) + 1)) J cc ss) _
        refine ev_n (fr' := (51, [some (vr 135), some (vi a1), some (vi a2), some (vi (r : Int)), some (vi ((c : Int) + 1))], [])) (S' := MS (up2 (up2 I 144 (b + c) 35) 135 22 ((b : Int) + (c : Int) + 1)) J cc ss) 1 rfl ?_
        have e9 : 35 = wbF D n (b + c) := by rw [hb, wb_at (by omega)]; exact ((if_neg (by omega)).trans (if_pos g3)).symm
        exact li_rwr X _ _ cc ss I0 n hn a1 a2 r b hr hb (c + 1) (by omega) hV.put hD.wr (by rw [up2_ne2 _ _ _ _ (by decide), up2_row _ _ _ _ (by decide)]; exact hW) (hR.put e9 (by omega)) K
    · show Ev X k_X9_writeIcon (77, [some (vr 135), some (vi a1), some (vi a2), some (vi (r : Int)), some (vi (c : Int))], [vi ((b : Int) + (c : Int)), vr 144]) (MS I J cc ss) _
      refine ev_n (fr' := (104, [some (vr 135), some (vi a1), some (vi a2), some (vi (r : Int)), some (vi (c : Int))], [vi 10, vi ((b : Int) + (c : Int)), vr 144])) (S' := MS I J cc ss) 2 rfl ?_
      refine ev_iasN (j := b + c) rfl rfl (by omega) (by omega) ?_
      show Ev X k_X9_writeIcon (105, [some (vr 135), some (vi a1), some (vi a2), some (vi (r : Int)), some (vi (c : Int))], []) (MS (up2 I 144 (b + c) 10) J cc ss) _
      refine ev_n (fr' := (110, [some (vr 135), some (vi a1), some (vi a2), some (vi (r : Int)), some (vi (c : Int))], [vi (I 135 22), vr 135])) (S' := MS (up2 I 144 (b + c) 10) J cc ss) 3 rfl ?_
      refine ev_eqi (hR.1) ?_
      show Ev X k_X9_writeIcon (110, [some (vr 135), some (vi a1), some (vi a2), some (vi (r : Int)), some (vi (c : Int))], [vi ((b : Int) + (c : Int)), vr 135]) (MS (up2 I 144 (b + c) 10) J cc ss) _
      refine ev_n (fr' := (111, [some (vr 135), some (vi a1), some (vi a2), some (vi (r : Int)), some (vi (c : Int))], [vi 1, vi ((b : Int) + (c : Int)), vr 135])) (S' := MS (up2 I 144 (b + c) 10) J cc ss) 1 rfl ?_
      refine ev_add (z := (b : Int) + (c : Int) + 1) rfl (by omega) (by omega) (by omega) ?_
      show Ev X k_X9_writeIcon (112, [some (vr 135), some (vi a1), some (vi a2), some (vi (r : Int)), some (vi (c : Int))], [vi ((b : Int) + (c : Int) + 1), vr 135]) (MS (up2 I 144 (b + c) 10) J cc ss) _
      refine ev_n (fr' := (115, [some (vr 135), some (vi a1), some (vi a2), some (vi (r : Int)), some (vi (c : Int))], [])) (S' := MS (up2 (up2 I 144 (b + c) 10) 135 22 ((b : Int) + (c : Int) + 1)) J cc ss) 1 rfl ?_
      refine ev_inc (z := (c : Int) + 1) rfl rfl (by omega) (by omega) (by omega) rfl ?_
      show Ev X k_X9_writeIcon (118, [some (vr 135), some (vi a1), some (vi a2), some (vi (r : Int)), some (vi ((c : Int) + 1))], []) (MS (up2 (up2 I 144 (b + c) 10) 135 22 ((b : Int) + (c : Int) + 1)) J cc ss) _
      refine ev_n (fr' := (51, [some (vr 135), some (vi a1), some (vi a2), some (vi (r : Int)), some (vi ((c : Int) + 1))], [])) (S' := MS (up2 (up2 I 144 (b + c) 10) 135 22 ((b : Int) + (c : Int) + 1)) J cc ss) 1 rfl ?_
      have e9 : 10 = wbF D n (b + c) := by rw [hb, wb_at (by omega)]; exact (if_pos (by omega)).symm
      exact li_rwr X _ _ cc ss I0 n hn a1 a2 r b hr hb (c + 1) (by omega) hV.put hD.wr (by rw [up2_ne2 _ _ _ _ (by decide), up2_row _ _ _ _ (by decide)]; exact hW) (hR.put e9 (by omega)) K
termination_by n + 1 - c
decreasing_by all_goals omega
theorem lp_rwr (X : AX) (I J : Nat → Nat → Int) (cc ss : Nat) {D : Nat → Nat → Bool} (I0 : F2) (n : Nat) (hn : n ≤ 32) (a1 a2 : Int) (r b : Nat) (v4 : Option AV) (hr : r ≤ n) (hb : b = r * (n + 1)) (hV : onlyV I0 I) (hD : DM I D) (hW : I 135 17 = (n : Int)) (hR : WR I D n b) : Ev X k_X9_writeIcon (40, [some (vr 135), some (vi a1), some (vi a2), some (vi (r : Int)), v4], []) (MS I J cc ss) (PV cc ss (some (vi ((n : Int) * ((n : Int) + 1)))) (fun I' J' => J' = J ∧ onlyV I0 I' ∧ DM I' D ∧ I' 135 17 = (n : Int) ∧ WR I' D n (n * (n + 1)))) := by
  refine ev_n (fr' := (45, [some (vr 135), some (vi a1), some (vi a2), some (vi (r : Int)), v4], [vi (I 135 17), vi (r : Int)])) (S' := MS I J cc ss) 3 rfl ?_
  refine ev_eqi (hW) ?_
  show Ev X k_X9_writeIcon (45, [some (vr 135), some (vi a1), some (vi a2), some (vi (r : Int)), v4], [vi (n : Int), vi (r : Int)]) (MS I J cc ss) _
  refine ev_ic (c := .ge) (off := 82) rfl (by decide) (fun (g1 : (n : Int) ≤ (r : Int)) => ?_) (fun (g1 : ¬ ((n : Int) ≤ (r : Int))) => ?_)
  · show Ev X k_X9_writeIcon (127, [some (vr 135), some (vi a1), some (vi a2), some (vi (r : Int)), v4], []) (MS I J cc ss) _
    refine ev_n (fr' := (131, [some (vr 135), some (vi a1), some (vi a2), some (vi (r : Int)), v4], [vi (I 135 22)])) (S' := MS I J cc ss) 2 rfl ?_
    refine ev_eqi (hR.1) ?_
    show Ev X k_X9_writeIcon (131, [some (vr 135), some (vi a1), some (vi a2), some (vi (r : Int)), v4], [vi (b : Int)]) (MS I J cc ss) _
    refine ev_r rfl rfl rfl ?_
    have er : r = n := by omega
    subst er
    exact ⟨_, _, rfl, congrArg (fun z => Sum.inl (some (vi z))) (by rw [hb, area_cast]), rfl, hV, hD, hW, hb ▸ hR⟩
  · show Ev X k_X9_writeIcon (48, [some (vr 135), some (vi a1), some (vi a2), some (vi (r : Int)), v4], []) (MS I J cc ss) _
    refine ev_n (fr' := (51, [some (vr 135), some (vi a1), some (vi a2), some (vi (r : Int)), some (vi 0)], [])) (S' := MS I J cc ss) 2 rfl ?_
    refine li_rwr X _ _ cc ss I0 n hn a1 a2 r b (by omega) hb 0 (by omega) hV hD hW hR (fun I' hV hD hW hR => ?_)
    show Ev X k_X9_writeIcon (121, [some (vr 135), some (vi a1), some (vi a2), some (vi (r : Int)), some (vi ((n : Int) + 1))], []) (MS I' J cc ss) _
    refine ev_inc (z := (r : Int) + 1) rfl rfl (by omega) (by omega) (by omega) rfl ?_
    show Ev X k_X9_writeIcon (124, [some (vr 135), some (vi a1), some (vi a2), some (vi ((r : Int) + 1)), some (vi ((n : Int) + 1))], []) (MS I' J cc ss) _
    refine ev_n (fr' := (40, [some (vr 135), some (vi a1), some (vi a2), some (vi ((r : Int) + 1)), some (vi ((n : Int) + 1))], [])) (S' := MS I' J cc ss) 1 rfl ?_
    exact lp_rwr X _ _ cc ss I0 n hn a1 a2 (r + 1) _ _ (by omega) rfl hV hD hW (by rw [Nat.add_mul, Nat.one_mul, ← hb]; exact hR)
termination_by n + 1 - r
decreasing_by all_goals omega
theorem rb_write_x (X : AX) (I J : Nat → Nat → Int) (cc ss : Nat) {g : F1} (y z : Int) (hg : J 136 = g) (hws : WS g) (hwp : WP g) (hwi : WI g) (h : ¬ ((0 ≤ y ∧ y < g 308) ∧ (0 ≤ z ∧ z < g 0))) : Ev X k_X9_writeIcon (0, [some (vr 135), some (vi y), some (vi z), none, none], []) (MS I J cc ss) (fun o T => o = .inl (some (vi 0)) ∧ T = MS (up2 I 135 4 1) J cc ss) := by
  have q0 := hws.1
  have q1 := hws.2.1
  have q2 := hwp.1
  have q3 := hwp.2.1
  have q4 := hwi.1
  have q5 := hwi.2.1
  refine ev_n (fr' := (4, [some (vr 135), some (vi y), some (vi z), none, none], [vi z, vi y, vr 135, vr 135])) (S' := MS I J cc ss) 4 rfl ?_
  refine ev_cv rfl rfl rfl ⟨Nat.le_of_ble_eq_true rfl, Nat.le_of_ble_eq_true rfl⟩ (sp_isOut1 X _ _ _ _ y z hg hws hwp hwi h) ?_
  show Ev X k_X9_writeIcon (7, [some (vr 135), some (vi y), some (vi z), none, none], [vi 1, vr 135]) (MS I J cc ss) _
  refine ev_n (fr' := (15, [some (vr 135), some (vi y), some (vi z), none, none], [vi 1, vr 135])) (S' := MS I J cc ss) 3 rfl ?_
  refine ev_n (fr' := (18, [some (vr 135), some (vi y), some (vi z), none, none], [])) (S' := MS (up2 I 135 4 1) J cc ss) 1 rfl ?_
  refine ev_n (fr' := (26, [some (vr 135), some (vi y), some (vi z), none, none], [vi 0])) (S' := MS (up2 I 135 4 1) J cc ss) 4 rfl ?_
  refine ev_r rfl rfl rfl ?_
  exact ⟨rfl, rfl⟩
theorem rb_write (X : AX) (I J : Nat → Nat → Int) (cc ss : Nat) {g : F1} (i k n : Nat) (hg : J 136 = g) (hws : WS g) (hwp : WP g) (hwi : WI g) (hi : (i : Int) < g 308) (hk : (k : Int) < g 0) (hn : g (2 * k + 1) = (n : Int)) : Ev X k_X9_writeIcon (0, [some (vr 135), some (vi (i : Int)), some (vi (k : Int)), none, none], []) (MS I J cc ss) (PV cc ss (some (vi ((n : Int) * ((n : Int) + 1)))) (fun I' J' => J' = J ∧ (∀ a, a ≠ 135 → a ≠ 140 → a ≠ 141 → a ≠ 142 → a ≠ 143 → a ≠ 144 → I' a = up2 I 135 4 0 a) ∧ (∀ f, f ≠ 17 → f ≠ 20 → f ≠ 22 → I' 135 f = up2 I 135 4 0 135 f) ∧ WR I' (icF g i (n : Int) (g (2 * k + 2))) n (n * (n + 1)))) := by
  have q0 := hws.1
  have q1 := hws.2.1
  have q2 := hwp.1
  have q3 := hwp.2.1
  have q4 := hwi.1
  have q5 := hwi.2.1
  have hr := hws.2.2.1 k hk
  have hF := scrM.refl (up2 I 135 4 0)
  refine ev_n (fr' := (4, [some (vr 135), some (vi (i : Int)), some (vi (k : Int)), none, none], [vi (k : Int), vi (i : Int), vr 135, vr 135])) (S' := MS I J cc ss) 4 rfl ?_
  refine ev_cv rfl rfl rfl ⟨Nat.le_of_ble_eq_true rfl, Nat.le_of_ble_eq_true rfl⟩ (sp_isOut0 X _ _ _ _ i k hg hws hwp hwi (by omega) (by omega)) ?_
  show Ev X k_X9_writeIcon (7, [some (vr 135), some (vi (i : Int)), some (vi (k : Int)), none, none], [vi 0, vr 135]) (MS I J cc ss) _
  refine ev_n (fr' := (15, [some (vr 135), some (vi (i : Int)), some (vi (k : Int)), none, none], [vi 0, vr 135])) (S' := MS I J cc ss) 2 rfl ?_
  refine ev_n (fr' := (18, [some (vr 135), some (vi (i : Int)), some (vi (k : Int)), none, none], [])) (S' := MS (up2 I 135 4 0) J cc ss) 1 rfl ?_
  refine ev_n (fr' := (30, [some (vr 135), some (vi (i : Int)), some (vi (k : Int)), none, none], [vi (k : Int), vi (i : Int), vr 135])) (S' := MS (up2 I 135 4 0) J cc ss) 6 rfl ?_
  refine ev_cp rfl rfl rfl ⟨Nat.le_of_ble_eq_true rfl, Nat.le_of_ble_eq_true rfl⟩ (sp_drawsAtW X _ _ _ _ i k hg hws hwp hwi (by omega) (by omega)) (fun I1 J q2 => ?_)
  obtain ⟨rfl, r1, hW, hD⟩ := q2
  show Ev X k_X9_writeIcon (33, [some (vr 135), some (vi (i : Int)), some (vi (k : Int)), none, none], []) (MS I1 J cc ss) _
  have hF := hF.trans r1.scr
  refine ev_n (fr' := (35, [some (vr 135), some (vi (i : Int)), some (vi (k : Int)), none, none], [vi 0, vr 135])) (S' := MS I1 J cc ss) 2 rfl ?_
  refine ev_n (fr' := (38, [some (vr 135), some (vi (i : Int)), some (vi (k : Int)), none, none], [])) (S' := MS (up2 I1 135 22 0) J cc ss) 1 rfl ?_
  refine ev_n (fr' := (40, [some (vr 135), some (vi (i : Int)), some (vi (k : Int)), some (vi 0), none], [])) (S' := MS (up2 I1 135 22 0) J cc ss) 2 rfl ?_
  rw [hn] at hW hD
  refine (lp_rwr X _ _ cc ss I1 n (by omega) _ _ 0 0 _ (by omega) (by omega) ⟨fun a _ _ => by rw [up2_row _ _ _ _ (by assumption)], fun f hf => up2_ne2 _ _ _ _ hf⟩ (DM.cell (up2_row _ _ _ _ (by decide)) hD) (by rw [up2_ne2 _ _ _ _ (by decide)]; exact hW) ⟨up2_same _ _ _ _, fun x hx => absurd hx (by omega)⟩).mono ?_
  rintro o T ⟨I', J', rfl, rfl, rfl, h1, _, _, h2⟩
  exact ⟨_, _, rfl, rfl, rfl, fun a q1 q2 q3 q4 q5 q6 => (h1.1 a q1 q6).trans (hF.1 a q1 q2 q3 q4 q5), fun f q1 q2 q3 => (h1.2 f q3).trans (hF.2 f q1 q2), h2⟩
theorem rb_written_x (X : AX) (I J : Nat → Nat → Int) (cc ss : Nat) (y : Int) {f : Nat → Int} {m : Nat} (hm : I 135 22 = (m : Int)) (hf : ∀ x, x < m → I 144 x = f x) (h56 : m ≤ 1056) (h : ¬ (0 ≤ y ∧ y ≤ (m : Int) - 1)) : Ev X k_X9_writtenByte (0, [some (vr 135), some (vi y)], []) (MS I J cc ss) (fun o T => o = .inl (some (vi 0)) ∧ T = MS (up2 I 135 4 1) J cc ss) := by
  refine ev_n (fr' := (8, [some (vr 135), some (vi y)], [vi (I 135 22), vl 0, vl y, vr 135])) (S' := MS I J cc ss) 6 rfl ?_
  refine ev_eqi (hm) ?_
  show Ev X k_X9_writtenByte (8, [some (vr 135), some (vi y)], [vi (m : Int), vl 0, vl y, vr 135]) (MS I J cc ss) _
  refine ev_n (fr' := (9, [some (vr 135), some (vi y)], [vi 1, vi (m : Int), vl 0, vl y, vr 135])) (S' := MS I J cc ss) 1 rfl ?_
  refine ev_sub (z := (m : Int) - 1) rfl (by omega) (by omega) (by omega) ?_
  show Ev X k_X9_writtenByte (10, [some (vr 135), some (vi y)], [vi ((m : Int) - 1), vl 0, vl y, vr 135]) (MS I J cc ss) _
  refine ev_n (fr' := (11, [some (vr 135), some (vi y)], [vl ((m : Int) - 1), vl 0, vl y, vr 135])) (S' := MS I J cc ss) 1 rfl ?_
  refine ev_cv rfl rfl rfl ⟨Nat.le_of_ble_eq_true rfl, Nat.le_of_ble_eq_true rfl⟩ (sp_isIn X _ y 0 ((m : Int) - 1) ) ?_
  show Ev X k_X9_writtenByte (14, [some (vr 135), some (vi y)], [vi (if 0 ≤ y ∧ y ≤ (m : Int) - 1 then 1 else 0), vr 135]) (MS I J cc ss) _
  refine ev_beq _ rfl (by decide) (fun (g1 : ¬ (0 ≤ y ∧ y ≤ (m : Int) - 1)) => ?_) (fun (g1 : 0 ≤ y ∧ y ≤ (m : Int) - 1) => False.elim ((h) g1))
  show Ev X k_X9_writtenByte (21, [some (vr 135), some (vi y)], [vr 135]) (MS I J cc ss) _
  refine ev_n (fr' := (22, [some (vr 135), some (vi y)], [vi 1, vr 135])) (S' := MS I J cc ss) 1 rfl ?_
  refine ev_n (fr' := (25, [some (vr 135), some (vi y)], [])) (S' := MS (up2 I 135 4 1) J cc ss) 1 rfl ?_
  refine ev_n (fr' := (42, [some (vr 135), some (vi y)], [vi 0])) (S' := MS (up2 I 135 4 1) J cc ss) 5 rfl ?_
  refine ev_r rfl rfl rfl ?_
  exact ⟨rfl, rfl⟩
theorem rb_written (X : AX) (I J : Nat → Nat → Int) (cc ss : Nat) (x : Nat) {f : Nat → Int} {m : Nat} (hm : I 135 22 = (m : Int)) (hf : ∀ x, x < m → I 144 x = f x) (h56 : m ≤ 1056) (hx : x < m) : Ev X k_X9_writtenByte (0, [some (vr 135), some (vi (x : Int))], []) (MS I J cc ss) (fun o T => o = .inl (some (vi (f x))) ∧ T = MS (up2 I 135 4 0) J cc ss) := by
  refine ev_n (fr' := (8, [some (vr 135), some (vi (x : Int))], [vi (I 135 22), vl 0, vl (x : Int), vr 135])) (S' := MS I J cc ss) 6 rfl ?_
  refine ev_eqi (hm) ?_
  show Ev X k_X9_writtenByte (8, [some (vr 135), some (vi (x : Int))], [vi (m : Int), vl 0, vl (x : Int), vr 135]) (MS I J cc ss) _
  refine ev_n (fr' := (9, [some (vr 135), some (vi (x : Int))], [vi 1, vi (m : Int), vl 0, vl (x : Int), vr 135])) (S' := MS I J cc ss) 1 rfl ?_
  refine ev_sub (z := (m : Int) - 1) rfl (by omega) (by omega) (by omega) ?_
  show Ev X k_X9_writtenByte (10, [some (vr 135), some (vi (x : Int))], [vi ((m : Int) - 1), vl 0, vl (x : Int), vr 135]) (MS I J cc ss) _
  refine ev_n (fr' := (11, [some (vr 135), some (vi (x : Int))], [vl ((m : Int) - 1), vl 0, vl (x : Int), vr 135])) (S' := MS I J cc ss) 1 rfl ?_
  refine ev_cv rfl rfl rfl ⟨Nat.le_of_ble_eq_true rfl, Nat.le_of_ble_eq_true rfl⟩ (sp_isIn X _ (x : Int) 0 ((m : Int) - 1) ) ?_
  show Ev X k_X9_writtenByte (14, [some (vr 135), some (vi (x : Int))], [vi (if 0 ≤ (x : Int) ∧ (x : Int) ≤ (m : Int) - 1 then 1 else 0), vr 135]) (MS I J cc ss) _
  refine ev_beq _ rfl (by decide) (fun (g1 : ¬ (0 ≤ (x : Int) ∧ (x : Int) ≤ (m : Int) - 1)) => False.elim (g1 (by omega))) (fun (g1 : 0 ≤ (x : Int) ∧ (x : Int) ≤ (m : Int) - 1) => ?_)
  show Ev X k_X9_writtenByte (17, [some (vr 135), some (vi (x : Int))], [vr 135]) (MS I J cc ss) _
  refine ev_n (fr' := (22, [some (vr 135), some (vi (x : Int))], [vi 0, vr 135])) (S' := MS I J cc ss) 2 rfl ?_
  refine ev_n (fr' := (25, [some (vr 135), some (vi (x : Int))], [])) (S' := MS (up2 I 135 4 0) J cc ss) 1 rfl ?_
  refine ev_n (fr' := (41, [some (vr 135), some (vi (x : Int))], [vi (x : Int), vr 144])) (S' := MS (up2 I 135 4 0) J cc ss) 6 rfl ?_
  refine ev_iaN (j := x) (z := (f x)) rfl rfl (by omega) (by omega) (hf x hx) ?_
  show Ev X k_X9_writtenByte (42, [some (vr 135), some (vi (x : Int))], [vi (f x)]) (MS (up2 I 135 4 0) J cc ss) _
  refine ev_r rfl rfl rfl ?_
  exact ⟨rfl, rfl⟩
