/-! THE REFERENCE loads (printed by gen/g98h.py) -/
def TXr (I : F2) (tx : F1) (fl : Nat) : Prop := I 135 6 = 4 * (fl : Int) ∧ fl ≤ 225 ∧ ∀ k, k < 4 * fl → I 139 k = tx k ∧ 0 ≤ tx k ∧ tx k ≤ 255
theorem rem4 {k : Nat} (h : k < 20) : opI fRem (k : Int) 4 = ((k % 4 : Nat) : Int) := by
  have : ∀ q : Fin 20, opI fRem ((q.val : Nat) : Int) 4 = ((q.val % 4 : Nat) : Int) := by decide +kernel
  exact this ⟨k, h⟩
def ap5 (tx : F1) (fl : Nat) (v : Nat → Int) : F1 := apF (apF (apF (apF (apF tx fl (v 0)) (fl + 1) (v 1)) (fl + 1 + 1) (v 2)) (fl + 1 + 1 + 1) (v 3)) (fl + 1 + 1 + 1 + 1) (v 4)
theorem ap5_lo {tx : F1} {fl k : Nat} {v : Nat → Int} (h : k < 4 * fl) : ap5 tx fl v k = tx k := by
  unfold ap5 apF; rw [if_pos (by omega), if_pos (by omega), if_pos (by omega), if_pos (by omega), if_pos (by omega)]
theorem ap5_hi {tx : F1} {fl j : Nat} {v : Nat → Int} (h : j < 20) : ap5 tx fl v (4 * fl + j) = byF (v (j / 4)) (j % 4) := by
  have hm : (4 * fl + j) % 4 = j % 4 := by omega
  unfold ap5 apF
  rcases (show j / 4 = 0 ∨ j / 4 = 1 ∨ j / 4 = 2 ∨ j / 4 = 3 ∨ j / 4 = 4 by omega) with q | q | q | q | q
  · rw [if_pos (by omega), if_pos (by omega), if_pos (by omega), if_pos (by omega), if_neg (by omega), hm, q]
  · rw [if_pos (by omega), if_pos (by omega), if_pos (by omega), if_neg (by omega), hm, q]
  · rw [if_pos (by omega), if_pos (by omega), if_neg (by omega), hm, q]
  · rw [if_pos (by omega), if_neg (by omega), hm, q]
  · rw [if_neg (by omega), hm, q]
theorem TXr.rb {I : F2} {tx : F1} {fl n : Nat} (h : TXr I tx fl) (hn : n ≤ 4 * fl) (h7 : I 135 7 = (n : Int)) : RB I tx n := ⟨by have := h.2.1; omega, h7, fun k hk => h.2.2 k (by omega)⟩
theorem lp_ap (X : AX) (I J : Nat → Nat → Int) (cc ss : Nat) (I0 : F2) {tx : F1} {fl : Nat} {vv : Nat → Int} (hf : 4 * fl + 20 ≤ 900) (h0 : ∀ k, k < 4 * fl → 0 ≤ tx k ∧ tx k ≤ 255) (k : Nat) (hk : k ≤ 20) (h6 : I 135 6 = 4 * (fl : Int) + (k : Int)) (hC : ∀ j, j < 4 * fl → I 139 j = tx j) (hD : ∀ j, j < k → I 139 (4 * fl + j) = byF (vv (j / 4)) (j % 4)) (hA : ∀ a, a ≠ 135 → a ≠ 139 → I a = I0 a) (hB : ∀ f, f ≠ 6 → I 135 f = I0 135 f) (v7 : Option AV) : Ev X k_X9_append (34, [some (vr 135), some (vi (vv 0)), some (vi (vv 1)), some (vi (vv 2)), some (vi (vv 3)), some (vi (vv 4)), some (vi (k : Int)), v7], []) (MS I J cc ss) (PV cc ss (some (vi (4 * ((fl + 5 : Nat) : Int)))) (fun I' J' => J' = J ∧ (∀ a, a ≠ 135 → a ≠ 139 → I' a = I0 a) ∧ (∀ f, f ≠ 6 → I' 135 f = I0 135 f) ∧ TXr I' (ap5 tx fl vv) (fl + 5))) := by
  refine ev_n (fr' := (38, [some (vr 135), some (vi (vv 0)), some (vi (vv 1)), some (vi (vv 2)), some (vi (vv 3)), some (vi (vv 4)), some (vi (k : Int)), v7], [vi 20, vi (k : Int)])) (S' := MS I J cc ss) 2 rfl ?_
  refine ev_ic (c := .ge) (off := 93) rfl (by decide) (fun (g1 : 20 ≤ (k : Int)) => ?_) (fun (g1 : ¬ (20 ≤ (k : Int))) => ?_)
  · show Ev X k_X9_append (131, [some (vr 135), some (vi (vv 0)), some (vi (vv 1)), some (vi (vv 2)), some (vi (vv 3)), some (vi (vv 4)), some (vi (k : Int)), v7], []) (MS I J cc ss) _
    refine ev_n (fr' := (135, [some (vr 135), some (vi (vv 0)), some (vi (vv 1)), some (vi (vv 2)), some (vi (vv 3)), some (vi (vv 4)), some (vi (k : Int)), v7], [vi (I 135 6)])) (S' := MS I J cc ss) 2 rfl ?_
    refine ev_eqi (h6) ?_
    show Ev X k_X9_append (135, [some (vr 135), some (vi (vv 0)), some (vi (vv 1)), some (vi (vv 2)), some (vi (vv 3)), some (vi (vv 4)), some (vi (k : Int)), v7], [vi (4 * (fl : Int) + (k : Int))]) (MS I J cc ss) _
    refine ev_r rfl rfl rfl ?_
    have e20 : k = 20 := by omega
    subst e20
    refine ⟨_, _, rfl, congrArg (fun z => Sum.inl (some (vi z))) (by omega), rfl, hA, hB, by rw [h6]; omega, by omega, fun j hj => ?_⟩
    by_cases e : j < 4 * fl
    · rw [ap5_lo e]; exact ⟨hC j e, h0 j e⟩
    · rw [show j = 4 * fl + (j - 4 * fl) by omega, ap5_hi (by omega)]; exact ⟨hD _ (by omega), by_rng _ _⟩
  · show Ev X k_X9_append (41, [some (vr 135), some (vi (vv 0)), some (vi (vv 1)), some (vi (vv 2)), some (vi (vv 3)), some (vi (vv 4)), some (vi (k : Int)), v7], []) (MS I J cc ss) _
    refine ev_n (fr' := (44, [some (vr 135), some (vi (vv 0)), some (vi (vv 1)), some (vi (vv 2)), some (vi (vv 3)), some (vi (vv 4)), some (vi (k : Int)), v7], [vi 4, vi (k : Int)])) (S' := MS I J cc ss) 2 rfl ?_
    refine ev_ic (c := .ge) (off := 7) rfl (by decide) (fun (g2 : 4 ≤ (k : Int)) => ?_) (fun (g2 : ¬ (4 ≤ (k : Int))) => ?_)
    · show Ev X k_X9_append (51, [some (vr 135), some (vi (vv 0)), some (vi (vv 1)), some (vi (vv 2)), some (vi (vv 3)), some (vi (vv 4)), some (vi (k : Int)), v7], []) (MS I J cc ss) _
      refine ev_n (fr' := (55, [some (vr 135), some (vi (vv 0)), some (vi (vv 1)), some (vi (vv 2)), some (vi (vv 3)), some (vi (vv 4)), some (vi (k : Int)), v7], [vi 8, vi (k : Int)])) (S' := MS I J cc ss) 2 rfl ?_
      refine ev_ic (c := .ge) (off := 7) rfl (by decide) (fun (g3 : 8 ≤ (k : Int)) => ?_) (fun (g3 : ¬ (8 ≤ (k : Int))) => ?_)
      · show Ev X k_X9_append (62, [some (vr 135), some (vi (vv 0)), some (vi (vv 1)), some (vi (vv 2)), some (vi (vv 3)), some (vi (vv 4)), some (vi (k : Int)), v7], []) (MS I J cc ss) _
        refine ev_n (fr' := (66, [some (vr 135), some (vi (vv 0)), some (vi (vv 1)), some (vi (vv 2)), some (vi (vv 3)), some (vi (vv 4)), some (vi (k : Int)), v7], [vi 12, vi (k : Int)])) (S' := MS I J cc ss) 2 rfl ?_
        refine ev_ic (c := .ge) (off := 7) rfl (by decide) (fun (g4 : 12 ≤ (k : Int)) => ?_) (fun (g4 : ¬ (12 ≤ (k : Int))) => ?_)
        · show Ev X k_X9_append (73, [some (vr 135), some (vi (vv 0)), some (vi (vv 1)), some (vi (vv 2)), some (vi (vv 3)), some (vi (vv 4)), some (vi (k : Int)), v7], []) (MS I J cc ss) _
          refine ev_n (fr' := (77, [some (vr 135), some (vi (vv 0)), some (vi (vv 1)), some (vi (vv 2)), some (vi (vv 3)), some (vi (vv 4)), some (vi (k : Int)), v7], [vi 16, vi (k : Int)])) (S' := MS I J cc ss) 2 rfl ?_
          refine ev_ic (c := .ge) (off := 8) rfl (by decide) (fun (g5 : 16 ≤ (k : Int)) => ?_) (fun (g5 : ¬ (16 ≤ (k : Int))) => ?_)
          · show Ev X k_X9_append (85, [some (vr 135), some (vi (vv 0)), some (vi (vv 1)), some (vi (vv 2)), some (vi (vv 3)), some (vi (vv 4)), some (vi (k : Int)), v7], []) (MS I J cc ss) _
            refine ev_n (fr' := (97, [some (vr 135), some (vi (vv 0)), some (vi (vv 1)), some (vi (vv 2)), some (vi (vv 3)), some (vi (vv 4)), some (vi (k : Int)), some (vi (vv 4))], [vi (I 135 6), vr 139])) (S' := MS I J cc ss) 6 rfl ?_
            refine ev_eqi (h6) ?_
            show Ev X k_X9_append (97, [some (vr 135), some (vi (vv 0)), some (vi (vv 1)), some (vi (vv 2)), some (vi (vv 3)), some (vi (vv 4)), some (vi (k : Int)), some (vi (vv 4))], [vi (4 * (fl : Int) + (k : Int)), vr 139]) (MS I J cc ss) _
            refine ev_n (fr' := (107, [some (vr 135), some (vi (vv 0)), some (vi (vv 1)), some (vi (vv 2)), some (vi (vv 3)), some (vi (vv 4)), some (vi (k : Int)), some (vi (vv 4))], [vi (opI fRem (k : Int) 4), vi 8, vi 24, vi (vv 4), vi (4 * (fl : Int) + (k : Int)), vr 139])) (S' := MS I J cc ss) 6 rfl ?_
            refine ev_eqi (rem4 (by omega)) ?_
            show Ev X k_X9_append (107, [some (vr 135), some (vi (vv 0)), some (vi (vv 1)), some (vi (vv 2)), some (vi (vv 3)), some (vi (vv 4)), some (vi (k : Int)), some (vi (vv 4))], [vi ((k % 4) : Int), vi 8, vi 24, vi (vv 4), vi (4 * (fl : Int) + (k : Int)), vr 139]) (MS I J cc ss) _
            refine ev_mul (z := 8 * ((k % 4) : Int)) rfl (by omega) (by omega) (by omega) ?_
            show Ev X k_X9_append (108, [some (vr 135), some (vi (vv 0)), some (vi (vv 1)), some (vi (vv 2)), some (vi (vv 3)), some (vi (vv 4)), some (vi (k : Int)), some (vi (vv 4))], [vi (8 * ((k % 4) : Int)), vi 24, vi (vv 4), vi (4 * (fl : Int) + (k : Int)), vr 139]) (MS I J cc ss) _
            refine ev_sub (z := 24 - 8 * ((k % 4) : Int)) rfl (by omega) (by omega) (by omega) ?_
            show Ev X k_X9_append (109, [some (vr 135), some (vi (vv 0)), some (vi (vv 1)), some (vi (vv 2)), some (vi (vv 3)), some (vi (vv 4)), some (vi (k : Int)), some (vi (vv 4))], [vi (24 - 8 * ((k % 4) : Int)), vi (vv 4), vi (4 * (fl : Int) + (k : Int)), vr 139]) (MS I J cc ss) _
            refine ev_n (fr' := (114, [some (vr 135), some (vi (vv 0)), some (vi (vv 1)), some (vi (vv 2)), some (vi (vv 3)), some (vi (vv 4)), some (vi (k : Int)), some (vi (vv 4))], [vi (opI (· &&& ·) (opI fShr (vv 4) (24 - 8 * ((k % 4) : Int))) 255), vi (4 * (fl : Int) + (k : Int)), vr 139])) (S' := MS I J cc ss) 3 rfl ?_
            refine ev_eqi ((congrArg (fun q => opI (· &&& ·) (opI fShr (vv 4) q) 255) (show 24 - 8 * ((k % 4 : Nat) : Int) = ((24 - 8 * (k % 4) : Nat) : Int) by omega)).trans (by_shr _ _)) ?_
            show Ev X k_X9_append (114, [some (vr 135), some (vi (vv 0)), some (vi (vv 1)), some (vi (vv 2)), some (vi (vv 3)), some (vi (vv 4)), some (vi (k : Int)), some (vi (vv 4))], [vi (byF (vv 4) (k % 4)), vi (4 * (fl : Int) + (k : Int)), vr 139]) (MS I J cc ss) _
            refine ev_iasN (j := 4 * fl + k) rfl rfl (by omega) (by omega) ?_
            show Ev X k_X9_append (115, [some (vr 135), some (vi (vv 0)), some (vi (vv 1)), some (vi (vv 2)), some (vi (vv 3)), some (vi (vv 4)), some (vi (k : Int)), some (vi (vv 4))], []) (MS (up2 I 139 (4 * fl + k) (byF (vv 4) (k % 4))) J cc ss) _
            refine ev_n (fr' := (120, [some (vr 135), some (vi (vv 0)), some (vi (vv 1)), some (vi (vv 2)), some (vi (vv 3)), some (vi (vv 4)), some (vi (k : Int)), some (vi (vv 4))], [vi (I 135 6), vr 135])) (S' := MS (up2 I 139 (4 * fl + k) (byF (vv 4) (k % 4))) J cc ss) 3 rfl ?_
            refine ev_eqi (h6) ?_
            show Ev X k_X9_append (120, [some (vr 135), some (vi (vv 0)), some (vi (vv 1)), some (vi (vv 2)), some (vi (vv 3)), some (vi (vv 4)), some (vi (k : Int)), some (vi (vv 4))], [vi (4 * (fl : Int) + (k : Int)), vr 135]) (MS (up2 I 139 (4 * fl + k) (byF (vv 4) (k % 4))) J cc ss) _
            refine ev_n (fr' := (121, [some (vr 135), some (vi (vv 0)), some (vi (vv 1)), some (vi (vv 2)), some (vi (vv 3)), some (vi (vv 4)), some (vi (k : Int)), some (vi (vv 4))], [vi 1, vi (4 * (fl : Int) + (k : Int)), vr 135])) (S' := MS (up2 I 139 (4 * fl + k) (byF (vv 4) (k % 4))) J cc ss) 1 rfl ?_
            refine ev_add (z := 4 * (fl : Int) + (k : Int) + 1) rfl (by omega) (by omega) (by omega) ?_
            show Ev X k_X9_append (122, [some (vr 135), some (vi (vv 0)), some (vi (vv 1)), some (vi (vv 2)), some (vi (vv 3)), some (vi (vv 4)), some (vi (k : Int)), some (vi (vv 4))], [vi (4 * (fl : Int) + (k : Int) + 1), vr 135]) (MS (up2 I 139 (4 * fl + k) (byF (vv 4) (k % 4))) J cc ss) _
            refine ev_n (fr' := (125, [some (vr 135), some (vi (vv 0)), some (vi (vv 1)), some (vi (vv 2)), some (vi (vv 3)), some (vi (vv 4)), some (vi (k : Int)), some (vi (vv 4))], [])) (S' := MS (up2 (up2 I 139 (4 * fl + k) (byF (vv 4) (k % 4))) 135 6 (4 * (fl : Int) + (k : Int) + 1)) J cc ss) 1 rfl ?_
            refine ev_inc (z := (k : Int) + 1) rfl rfl (by omega) (by omega) (by omega) rfl ?_
            show Ev X k_X9_append (128, [some (vr 135), some (vi (vv 0)), some (vi (vv 1)), some (vi (vv 2)), some (vi (vv 3)), some (vi (vv 4)), some (vi ((k : Int) + 1)), some (vi (vv 4))], []) (MS (up2 (up2 I 139 (4 * fl + k) (byF (vv 4) (k % 4))) 135 6 (4 * (fl : Int) + (k : Int) + 1)) J cc ss) _
            refine ev_n (fr' := (34, [some (vr 135), some (vi (vv 0)), some (vi (vv 1)), some (vi (vv 2)), some (vi (vv 3)), some (vi (vv 4)), some (vi ((k : Int) + 1)), some (vi (vv 4))], [])) (S' := MS (up2 (up2 I 139 (4 * fl + k) (byF (vv 4) (k % 4))) 135 6 (4 * (fl : Int) + (k : Int) + 1)) J cc ss) 1 rfl ?_
            refine lp_ap X _ J cc ss I0 hf h0 (k + 1) (by omega) (by rw [up2_same]; omega) (fun j hj => ?_) (fun j hj => ?_) (fun a h1 h2 => by rw [up2_row _ _ _ _ h1, up2_row _ _ _ _ h2]; refine hA a h1 h2) (fun f hf => by rw [up2_ne2 _ _ _ _ hf, up2_row _ _ _ _ (by decide)]; refine hB f hf) _
            · rw [up2_row _ _ _ _ (by decide), up2_ne2 _ _ _ _ (by omega)]; exact hC j hj
            · rw [up2_row _ _ _ _ (by decide)]
              by_cases e : j = k
              · rw [e, up2_same, show k / 4 = 4 by omega]
              · rw [up2_ne2 _ _ _ _ (by omega)]; exact hD j (by omega)
          · show Ev X k_X9_append (80, [some (vr 135), some (vi (vv 0)), some (vi (vv 1)), some (vi (vv 2)), some (vi (vv 3)), some (vi (vv 4)), some (vi (k : Int)), v7], []) (MS I J cc ss) _
            refine ev_n (fr' := (97, [some (vr 135), some (vi (vv 0)), some (vi (vv 1)), some (vi (vv 2)), some (vi (vv 3)), some (vi (vv 4)), some (vi (k : Int)), some (vi (vv 3))], [vi (I 135 6), vr 139])) (S' := MS I J cc ss) 7 rfl ?_
            refine ev_eqi (h6) ?_
            show Ev X k_X9_append (97, [some (vr 135), some (vi (vv 0)), some (vi (vv 1)), some (vi (vv 2)), some (vi (vv 3)), some (vi (vv 4)), some (vi (k : Int)), some (vi (vv 3))], [vi (4 * (fl : Int) + (k : Int)), vr 139]) (MS I J cc ss) _
            refine ev_n (fr' := (107, [some (vr 135), some (vi (vv 0)), some (vi (vv 1)), some (vi (vv 2)), some (vi (vv 3)), some (vi (vv 4)), some (vi (k : Int)), some (vi (vv 3))], [vi (opI fRem (k : Int) 4), vi 8, vi 24, vi (vv 3), vi (4 * (fl : Int) + (k : Int)), vr 139])) (S' := MS I J cc ss) 6 rfl ?_
            refine ev_eqi (rem4 (by omega)) ?_
            show Ev X k_X9_append (107, [some (vr 135), some (vi (vv 0)), some (vi (vv 1)), some (vi (vv 2)), some (vi (vv 3)), some (vi (vv 4)), some (vi (k : Int)), some (vi (vv 3))], [vi ((k % 4) : Int), vi 8, vi 24, vi (vv 3), vi (4 * (fl : Int) + (k : Int)), vr 139]) (MS I J cc ss) _
            refine ev_mul (z := 8 * ((k % 4) : Int)) rfl (by omega) (by omega) (by omega) ?_
            show Ev X k_X9_append (108, [some (vr 135), some (vi (vv 0)), some (vi (vv 1)), some (vi (vv 2)), some (vi (vv 3)), some (vi (vv 4)), some (vi (k : Int)), some (vi (vv 3))], [vi (8 * ((k % 4) : Int)), vi 24, vi (vv 3), vi (4 * (fl : Int) + (k : Int)), vr 139]) (MS I J cc ss) _
            refine ev_sub (z := 24 - 8 * ((k % 4) : Int)) rfl (by omega) (by omega) (by omega) ?_
            show Ev X k_X9_append (109, [some (vr 135), some (vi (vv 0)), some (vi (vv 1)), some (vi (vv 2)), some (vi (vv 3)), some (vi (vv 4)), some (vi (k : Int)), some (vi (vv 3))], [vi (24 - 8 * ((k % 4) : Int)), vi (vv 3), vi (4 * (fl : Int) + (k : Int)), vr 139]) (MS I J cc ss) _
            refine ev_n (fr' := (114, [some (vr 135), some (vi (vv 0)), some (vi (vv 1)), some (vi (vv 2)), some (vi (vv 3)), some (vi (vv 4)), some (vi (k : Int)), some (vi (vv 3))], [vi (opI (· &&& ·) (opI fShr (vv 3) (24 - 8 * ((k % 4) : Int))) 255), vi (4 * (fl : Int) + (k : Int)), vr 139])) (S' := MS I J cc ss) 3 rfl ?_
            refine ev_eqi ((congrArg (fun q => opI (· &&& ·) (opI fShr (vv 3) q) 255) (show 24 - 8 * ((k % 4 : Nat) : Int) = ((24 - 8 * (k % 4) : Nat) : Int) by omega)).trans (by_shr _ _)) ?_
            show Ev X k_X9_append (114, [some (vr 135), some (vi (vv 0)), some (vi (vv 1)), some (vi (vv 2)), some (vi (vv 3)), some (vi (vv 4)), some (vi (k : Int)), some (vi (vv 3))], [vi (byF (vv 3) (k % 4)), vi (4 * (fl : Int) + (k : Int)), vr 139]) (MS I J cc ss) _
            refine ev_iasN (j := 4 * fl + k) rfl rfl (by omega) (by omega) ?_
            show Ev X k_X9_append (115, [some (vr 135), some (vi (vv 0)), some (vi (vv 1)), some (vi (vv 2)), some (vi (vv 3)), some (vi (vv 4)), some (vi (k : Int)), some (vi (vv 3))], []) (MS (up2 I 139 (4 * fl + k) (byF (vv 3) (k % 4))) J cc ss) _
            refine ev_n (fr' := (120, [some (vr 135), some (vi (vv 0)), some (vi (vv 1)), some (vi (vv 2)), some (vi (vv 3)), some (vi (vv 4)), some (vi (k : Int)), some (vi (vv 3))], [vi (I 135 6), vr 135])) (S' := MS (up2 I 139 (4 * fl + k) (byF (vv 3) (k % 4))) J cc ss) 3 rfl ?_
            refine ev_eqi (h6) ?_
            show Ev X k_X9_append (120, [some (vr 135), some (vi (vv 0)), some (vi (vv 1)), some (vi (vv 2)), some (vi (vv 3)), some (vi (vv 4)), some (vi (k : Int)), some (vi (vv 3))], [vi (4 * (fl : Int) + (k : Int)), vr 135]) (MS (up2 I 139 (4 * fl + k) (byF (vv 3) (k % 4))) J cc ss) _
            refine ev_n (fr' := (121, [some (vr 135), some (vi (vv 0)), some (vi (vv 1)), some (vi (vv 2)), some (vi (vv 3)), some (vi (vv 4)), some (vi (k : Int)), some (vi (vv 3))], [vi 1, vi (4 * (fl : Int) + (k : Int)), vr 135])) (S' := MS (up2 I 139 (4 * fl + k) (byF (vv 3) (k % 4))) J cc ss) 1 rfl ?_
            refine ev_add (z := 4 * (fl : Int) + (k : Int) + 1) rfl (by omega) (by omega) (by omega) ?_
            show Ev X k_X9_append (122, [some (vr 135), some (vi (vv 0)), some (vi (vv 1)), some (vi (vv 2)), some (vi (vv 3)), some (vi (vv 4)), some (vi (k : Int)), some (vi (vv 3))], [vi (4 * (fl : Int) + (k : Int) + 1), vr 135]) (MS (up2 I 139 (4 * fl + k) (byF (vv 3) (k % 4))) J cc ss) _
            refine ev_n (fr' := (125, [some (vr 135), some (vi (vv 0)), some (vi (vv 1)), some (vi (vv 2)), some (vi (vv 3)), some (vi (vv 4)), some (vi (k : Int)), some (vi (vv 3))], [])) (S' := MS (up2 (up2 I 139 (4 * fl + k) (byF (vv 3) (k % 4))) 135 6 (4 * (fl : Int) + (k : Int) + 1)) J cc ss) 1 rfl ?_
            refine ev_inc (z := (k : Int) + 1) rfl rfl (by omega) (by omega) (by omega) rfl ?_
            show Ev X k_X9_append (128, [some (vr 135), some (vi (vv 0)), some (vi (vv 1)), some (vi (vv 2)), some (vi (vv 3)), some (vi (vv 4)), some (vi ((k : Int) + 1)), some (vi (vv 3))], []) (MS (up2 (up2 I 139 (4 * fl + k) (byF (vv 3) (k % 4))) 135 6 (4 * (fl : Int) + (k : Int) + 1)) J cc ss) _
            refine ev_n (fr' := (34, [some (vr 135), some (vi (vv 0)), some (vi (vv 1)), some (vi (vv 2)), some (vi (vv 3)), some (vi (vv 4)), some (vi ((k : Int) + 1)), some (vi (vv 3))], [])) (S' := MS (up2 (up2 I 139 (4 * fl + k) (byF (vv 3) (k % 4))) 135 6 (4 * (fl : Int) + (k : Int) + 1)) J cc ss) 1 rfl ?_
            refine lp_ap X _ J cc ss I0 hf h0 (k + 1) (by omega) (by rw [up2_same]; omega) (fun j hj => ?_) (fun j hj => ?_) (fun a h1 h2 => by rw [up2_row _ _ _ _ h1, up2_row _ _ _ _ h2]; refine hA a h1 h2) (fun f hf => by rw [up2_ne2 _ _ _ _ hf, up2_row _ _ _ _ (by decide)]; refine hB f hf) _
            · rw [up2_row _ _ _ _ (by decide), up2_ne2 _ _ _ _ (by omega)]; exact hC j hj
            · rw [up2_row _ _ _ _ (by decide)]
              by_cases e : j = k
              · rw [e, up2_same, show k / 4 = 3 by omega]
              · rw [up2_ne2 _ _ _ _ (by omega)]; exact hD j (by omega)
        · show Ev X k_X9_append (69, [some (vr 135), some (vi (vv 0)), some (vi (vv 1)), some (vi (vv 2)), some (vi (vv 3)), some (vi (vv 4)), some (vi (k : Int)), v7], []) (MS I J cc ss) _
          refine ev_n (fr' := (97, [some (vr 135), some (vi (vv 0)), some (vi (vv 1)), some (vi (vv 2)), some (vi (vv 3)), some (vi (vv 4)), some (vi (k : Int)), some (vi (vv 2))], [vi (I 135 6), vr 139])) (S' := MS I J cc ss) 7 rfl ?_
          refine ev_eqi (h6) ?_
          show Ev X k_X9_append (97, [some (vr 135), some (vi (vv 0)), some (vi (vv 1)), some (vi (vv 2)), some (vi (vv 3)), some (vi (vv 4)), some (vi (k : Int)), some (vi (vv 2))], [vi (4 * (fl : Int) + (k : Int)), vr 139]) (MS I J cc ss) _
          refine ev_n (fr' := (107, [some (vr 135), some (vi (vv 0)), some (vi (vv 1)), some (vi (vv 2)), some (vi (vv 3)), some (vi (vv 4)), some (vi (k : Int)), some (vi (vv 2))], [vi (opI fRem (k : Int) 4), vi 8, vi 24, vi (vv 2), vi (4 * (fl : Int) + (k : Int)), vr 139])) (S' := MS I J cc ss) 6 rfl ?_
          refine ev_eqi (rem4 (by omega)) ?_
          show Ev X k_X9_append (107, [some (vr 135), some (vi (vv 0)), some (vi (vv 1)), some (vi (vv 2)), some (vi (vv 3)), some (vi (vv 4)), some (vi (k : Int)), some (vi (vv 2))], [vi ((k % 4) : Int), vi 8, vi 24, vi (vv 2), vi (4 * (fl : Int) + (k : Int)), vr 139]) (MS I J cc ss) _
          refine ev_mul (z := 8 * ((k % 4) : Int)) rfl (by omega) (by omega) (by omega) ?_
          show Ev X k_X9_append (108, [some (vr 135), some (vi (vv 0)), some (vi (vv 1)), some (vi (vv 2)), some (vi (vv 3)), some (vi (vv 4)), some (vi (k : Int)), some (vi (vv 2))], [vi (8 * ((k % 4) : Int)), vi 24, vi (vv 2), vi (4 * (fl : Int) + (k : Int)), vr 139]) (MS I J cc ss) _
          refine ev_sub (z := 24 - 8 * ((k % 4) : Int)) rfl (by omega) (by omega) (by omega) ?_
          show Ev X k_X9_append (109, [some (vr 135), some (vi (vv 0)), some (vi (vv 1)), some (vi (vv 2)), some (vi (vv 3)), some (vi (vv 4)), some (vi (k : Int)), some (vi (vv 2))], [vi (24 - 8 * ((k % 4) : Int)), vi (vv 2), vi (4 * (fl : Int) + (k : Int)), vr 139]) (MS I J cc ss) _
          refine ev_n (fr' := (114, [some (vr 135), some (vi (vv 0)), some (vi (vv 1)), some (vi (vv 2)), some (vi (vv 3)), some (vi (vv 4)), some (vi (k : Int)), some (vi (vv 2))], [vi (opI (· &&& ·) (opI fShr (vv 2) (24 - 8 * ((k % 4) : Int))) 255), vi (4 * (fl : Int) + (k : Int)), vr 139])) (S' := MS I J cc ss) 3 rfl ?_
          refine ev_eqi ((congrArg (fun q => opI (· &&& ·) (opI fShr (vv 2) q) 255) (show 24 - 8 * ((k % 4 : Nat) : Int) = ((24 - 8 * (k % 4) : Nat) : Int) by omega)).trans (by_shr _ _)) ?_
          show Ev X k_X9_append (114, [some (vr 135), some (vi (vv 0)), some (vi (vv 1)), some (vi (vv 2)), some (vi (vv 3)), some (vi (vv 4)), some (vi (k : Int)), some (vi (vv 2))], [vi (byF (vv 2) (k % 4)), vi (4 * (fl : Int) + (k : Int)), vr 139]) (MS I J cc ss) _
          refine ev_iasN (j := 4 * fl + k) rfl rfl (by omega) (by omega) ?_
          show Ev X k_X9_append (115, [some (vr 135), some (vi (vv 0)), some (vi (vv 1)), some (vi (vv 2)), some (vi (vv 3)), some (vi (vv 4)), some (vi (k : Int)), some (vi (vv 2))], []) (MS (up2 I 139 (4 * fl + k) (byF (vv 2) (k % 4))) J cc ss) _
          refine ev_n (fr' := (120, [some (vr 135), some (vi (vv 0)), some (vi (vv 1)), some (vi (vv 2)), some (vi (vv 3)), some (vi (vv 4)), some (vi (k : Int)), some (vi (vv 2))], [vi (I 135 6), vr 135])) (S' := MS (up2 I 139 (4 * fl + k) (byF (vv 2) (k % 4))) J cc ss) 3 rfl ?_
          refine ev_eqi (h6) ?_
          show Ev X k_X9_append (120, [some (vr 135), some (vi (vv 0)), some (vi (vv 1)), some (vi (vv 2)), some (vi (vv 3)), some (vi (vv 4)), some (vi (k : Int)), some (vi (vv 2))], [vi (4 * (fl : Int) + (k : Int)), vr 135]) (MS (up2 I 139 (4 * fl + k) (byF (vv 2) (k % 4))) J cc ss) _
          refine ev_n (fr' := (121, [some (vr 135), some (vi (vv 0)), some (vi (vv 1)), some (vi (vv 2)), some (vi (vv 3)), some (vi (vv 4)), some (vi (k : Int)), some (vi (vv 2))], [vi 1, vi (4 * (fl : Int) + (k : Int)), vr 135])) (S' := MS (up2 I 139 (4 * fl + k) (byF (vv 2) (k % 4))) J cc ss) 1 rfl ?_
          refine ev_add (z := 4 * (fl : Int) + (k : Int) + 1) rfl (by omega) (by omega) (by omega) ?_
          show Ev X k_X9_append (122, [some (vr 135), some (vi (vv 0)), some (vi (vv 1)), some (vi (vv 2)), some (vi (vv 3)), some (vi (vv 4)), some (vi (k : Int)), some (vi (vv 2))], [vi (4 * (fl : Int) + (k : Int) + 1), vr 135]) (MS (up2 I 139 (4 * fl + k) (byF (vv 2) (k % 4))) J cc ss) _
          refine ev_n (fr' := (125, [some (vr 135), some (vi (vv 0)), some (vi (vv 1)), some (vi (vv 2)), some (vi (vv 3)), some (vi (vv 4)), some (vi (k : Int)), some (vi (vv 2))], [])) (S' := MS (up2 (up2 I 139 (4 * fl + k) (byF (vv 2) (k % 4))) 135 6 (4 * (fl : Int) + (k : Int) + 1)) J cc ss) 1 rfl ?_
          refine ev_inc (z := (k : Int) + 1) rfl rfl (by omega) (by omega) (by omega) rfl ?_
          show Ev X k_X9_append (128, [some (vr 135), some (vi (vv 0)), some (vi (vv 1)), some (vi (vv 2)), some (vi (vv 3)), some (vi (vv 4)), some (vi ((k : Int) + 1)), some (vi (vv 2))], []) (MS (up2 (up2 I 139 (4 * fl + k) (byF (vv 2) (k % 4))) 135 6 (4 * (fl : Int) + (k : Int) + 1)) J cc ss) _
          refine ev_n (fr' := (34, [some (vr 135), some (vi (vv 0)), some (vi (vv 1)), some (vi (vv 2)), some (vi (vv 3)), some (vi (vv 4)), some (vi ((k : Int) + 1)), some (vi (vv 2))], [])) (S' := MS (up2 (up2 I 139 (4 * fl + k) (byF (vv 2) (k % 4))) 135 6 (4 * (fl : Int) + (k : Int) + 1)) J cc ss) 1 rfl ?_
          refine lp_ap X _ J cc ss I0 hf h0 (k + 1) (by omega) (by rw [up2_same]; omega) (fun j hj => ?_) (fun j hj => ?_) (fun a h1 h2 => by rw [up2_row _ _ _ _ h1, up2_row _ _ _ _ h2]; refine hA a h1 h2) (fun f hf => by rw [up2_ne2 _ _ _ _ hf, up2_row _ _ _ _ (by decide)]; refine hB f hf) _
          · rw [up2_row _ _ _ _ (by decide), up2_ne2 _ _ _ _ (by omega)]; exact hC j hj
          · rw [up2_row _ _ _ _ (by decide)]
            by_cases e : j = k
            · rw [e, up2_same, show k / 4 = 2 by omega]
            · rw [up2_ne2 _ _ _ _ (by omega)]; exact hD j (by omega)
      · show Ev X k_X9_append (58, [some (vr 135), some (vi (vv 0)), some (vi (vv 1)), some (vi (vv 2)), some (vi (vv 3)), some (vi (vv 4)), some (vi (k : Int)), v7], []) (MS I J cc ss) _
        refine ev_n (fr' := (97, [some (vr 135), some (vi (vv 0)), some (vi (vv 1)), some (vi (vv 2)), some (vi (vv 3)), some (vi (vv 4)), some (vi (k : Int)), some (vi (vv 1))], [vi (I 135 6), vr 139])) (S' := MS I J cc ss) 7 rfl ?_
        refine ev_eqi (h6) ?_
        show Ev X k_X9_append (97, [some (vr 135), some (vi (vv 0)), some (vi (vv 1)), some (vi (vv 2)), some (vi (vv 3)), some (vi (vv 4)), some (vi (k : Int)), some (vi (vv 1))], [vi (4 * (fl : Int) + (k : Int)), vr 139]) (MS I J cc ss) _
        refine ev_n (fr' := (107, [some (vr 135), some (vi (vv 0)), some (vi (vv 1)), some (vi (vv 2)), some (vi (vv 3)), some (vi (vv 4)), some (vi (k : Int)), some (vi (vv 1))], [vi (opI fRem (k : Int) 4), vi 8, vi 24, vi (vv 1), vi (4 * (fl : Int) + (k : Int)), vr 139])) (S' := MS I J cc ss) 6 rfl ?_
        refine ev_eqi (rem4 (by omega)) ?_
        show Ev X k_X9_append (107, [some (vr 135), some (vi (vv 0)), some (vi (vv 1)), some (vi (vv 2)), some (vi (vv 3)), some (vi (vv 4)), some (vi (k : Int)), some (vi (vv 1))], [vi ((k % 4) : Int), vi 8, vi 24, vi (vv 1), vi (4 * (fl : Int) + (k : Int)), vr 139]) (MS I J cc ss) _
        refine ev_mul (z := 8 * ((k % 4) : Int)) rfl (by omega) (by omega) (by omega) ?_
        show Ev X k_X9_append (108, [some (vr 135), some (vi (vv 0)), some (vi (vv 1)), some (vi (vv 2)), some (vi (vv 3)), some (vi (vv 4)), some (vi (k : Int)), some (vi (vv 1))], [vi (8 * ((k % 4) : Int)), vi 24, vi (vv 1), vi (4 * (fl : Int) + (k : Int)), vr 139]) (MS I J cc ss) _
        refine ev_sub (z := 24 - 8 * ((k % 4) : Int)) rfl (by omega) (by omega) (by omega) ?_
        show Ev X k_X9_append (109, [some (vr 135), some (vi (vv 0)), some (vi (vv 1)), some (vi (vv 2)), some (vi (vv 3)), some (vi (vv 4)), some (vi (k : Int)), some (vi (vv 1))], [vi (24 - 8 * ((k % 4) : Int)), vi (vv 1), vi (4 * (fl : Int) + (k : Int)), vr 139]) (MS I J cc ss) _
        refine ev_n (fr' := (114, [some (vr 135), some (vi (vv 0)), some (vi (vv 1)), some (vi (vv 2)), some (vi (vv 3)), some (vi (vv 4)), some (vi (k : Int)), some (vi (vv 1))], [vi (opI (· &&& ·) (opI fShr (vv 1) (24 - 8 * ((k % 4) : Int))) 255), vi (4 * (fl : Int) + (k : Int)), vr 139])) (S' := MS I J cc ss) 3 rfl ?_
        refine ev_eqi ((congrArg (fun q => opI (· &&& ·) (opI fShr (vv 1) q) 255) (show 24 - 8 * ((k % 4 : Nat) : Int) = ((24 - 8 * (k % 4) : Nat) : Int) by omega)).trans (by_shr _ _)) ?_
        show Ev X k_X9_append (114, [some (vr 135), some (vi (vv 0)), some (vi (vv 1)), some (vi (vv 2)), some (vi (vv 3)), some (vi (vv 4)), some (vi (k : Int)), some (vi (vv 1))], [vi (byF (vv 1) (k % 4)), vi (4 * (fl : Int) + (k : Int)), vr 139]) (MS I J cc ss) _
        refine ev_iasN (j := 4 * fl + k) rfl rfl (by omega) (by omega) ?_
        show Ev X k_X9_append (115, [some (vr 135), some (vi (vv 0)), some (vi (vv 1)), some (vi (vv 2)), some (vi (vv 3)), some (vi (vv 4)), some (vi (k : Int)), some (vi (vv 1))], []) (MS (up2 I 139 (4 * fl + k) (byF (vv 1) (k % 4))) J cc ss) _
        refine ev_n (fr' := (120, [some (vr 135), some (vi (vv 0)), some (vi (vv 1)), some (vi (vv 2)), some (vi (vv 3)), some (vi (vv 4)), some (vi (k : Int)), some (vi (vv 1))], [vi (I 135 6), vr 135])) (S' := MS (up2 I 139 (4 * fl + k) (byF (vv 1) (k % 4))) J cc ss) 3 rfl ?_
        refine ev_eqi (h6) ?_
        show Ev X k_X9_append (120, [some (vr 135), some (vi (vv 0)), some (vi (vv 1)), some (vi (vv 2)), some (vi (vv 3)), some (vi (vv 4)), some (vi (k : Int)), some (vi (vv 1))], [vi (4 * (fl : Int) + (k : Int)), vr 135]) (MS (up2 I 139 (4 * fl + k) (byF (vv 1) (k % 4))) J cc ss) _
        refine ev_n (fr' := (121, [some (vr 135), some (vi (vv 0)), some (vi (vv 1)), some (vi (vv 2)), some (vi (vv 3)), some (vi (vv 4)), some (vi (k : Int)), some (vi (vv 1))], [vi 1, vi (4 * (fl : Int) + (k : Int)), vr 135])) (S' := MS (up2 I 139 (4 * fl + k) (byF (vv 1) (k % 4))) J cc ss) 1 rfl ?_
        refine ev_add (z := 4 * (fl : Int) + (k : Int) + 1) rfl (by omega) (by omega) (by omega) ?_
        show Ev X k_X9_append (122, [some (vr 135), some (vi (vv 0)), some (vi (vv 1)), some (vi (vv 2)), some (vi (vv 3)), some (vi (vv 4)), some (vi (k : Int)), some (vi (vv 1))], [vi (4 * (fl : Int) + (k : Int) + 1), vr 135]) (MS (up2 I 139 (4 * fl + k) (byF (vv 1) (k % 4))) J cc ss) _
        refine ev_n (fr' := (125, [some (vr 135), some (vi (vv 0)), some (vi (vv 1)), some (vi (vv 2)), some (vi (vv 3)), some (vi (vv 4)), some (vi (k : Int)), some (vi (vv 1))], [])) (S' := MS (up2 (up2 I 139 (4 * fl + k) (byF (vv 1) (k % 4))) 135 6 (4 * (fl : Int) + (k : Int) + 1)) J cc ss) 1 rfl ?_
        refine ev_inc (z := (k : Int) + 1) rfl rfl (by omega) (by omega) (by omega) rfl ?_
        show Ev X k_X9_append (128, [some (vr 135), some (vi (vv 0)), some (vi (vv 1)), some (vi (vv 2)), some (vi (vv 3)), some (vi (vv 4)), some (vi ((k : Int) + 1)), some (vi (vv 1))], []) (MS (up2 (up2 I 139 (4 * fl + k) (byF (vv 1) (k % 4))) 135 6 (4 * (fl : Int) + (k : Int) + 1)) J cc ss) _
        refine ev_n (fr' := (34, [some (vr 135), some (vi (vv 0)), some (vi (vv 1)), some (vi (vv 2)), some (vi (vv 3)), some (vi (vv 4)), some (vi ((k : Int) + 1)), some (vi (vv 1))], [])) (S' := MS (up2 (up2 I 139 (4 * fl + k) (byF (vv 1) (k % 4))) 135 6 (4 * (fl : Int) + (k : Int) + 1)) J cc ss) 1 rfl ?_
        refine lp_ap X _ J cc ss I0 hf h0 (k + 1) (by omega) (by rw [up2_same]; omega) (fun j hj => ?_) (fun j hj => ?_) (fun a h1 h2 => by rw [up2_row _ _ _ _ h1, up2_row _ _ _ _ h2]; refine hA a h1 h2) (fun f hf => by rw [up2_ne2 _ _ _ _ hf, up2_row _ _ _ _ (by decide)]; refine hB f hf) _
        · rw [up2_row _ _ _ _ (by decide), up2_ne2 _ _ _ _ (by omega)]; exact hC j hj
        · rw [up2_row _ _ _ _ (by decide)]
          by_cases e : j = k
          · rw [e, up2_same, show k / 4 = 1 by omega]
          · rw [up2_ne2 _ _ _ _ (by omega)]; exact hD j (by omega)
    · show Ev X k_X9_append (47, [some (vr 135), some (vi (vv 0)), some (vi (vv 1)), some (vi (vv 2)), some (vi (vv 3)), some (vi (vv 4)), some (vi (k : Int)), v7], []) (MS I J cc ss) _
      refine ev_n (fr' := (97, [some (vr 135), some (vi (vv 0)), some (vi (vv 1)), some (vi (vv 2)), some (vi (vv 3)), some (vi (vv 4)), some (vi (k : Int)), some (vi (vv 0))], [vi (I 135 6), vr 139])) (S' := MS I J cc ss) 7 rfl ?_
      refine ev_eqi (h6) ?_
      show Ev X k_X9_append (97, [some (vr 135), some (vi (vv 0)), some (vi (vv 1)), some (vi (vv 2)), some (vi (vv 3)), some (vi (vv 4)), some (vi (k : Int)), some (vi (vv 0))], [vi (4 * (fl : Int) + (k : Int)), vr 139]) (MS I J cc ss) _
      refine ev_n (fr' := (107, [some (vr 135), some (vi (vv 0)), some (vi (vv 1)), some (vi (vv 2)), some (vi (vv 3)), some (vi (vv 4)), some (vi (k : Int)), some (vi (vv 0))], [vi (opI fRem (k : Int) 4), vi 8, vi 24, vi (vv 0), vi (4 * (fl : Int) + (k : Int)), vr 139])) (S' := MS I J cc ss) 6 rfl ?_
      refine ev_eqi (rem4 (by omega)) ?_
      show Ev X k_X9_append (107, [some (vr 135), some (vi (vv 0)), some (vi (vv 1)), some (vi (vv 2)), some (vi (vv 3)), some (vi (vv 4)), some (vi (k : Int)), some (vi (vv 0))], [vi ((k % 4) : Int), vi 8, vi 24, vi (vv 0), vi (4 * (fl : Int) + (k : Int)), vr 139]) (MS I J cc ss) _
      refine ev_mul (z := 8 * ((k % 4) : Int)) rfl (by omega) (by omega) (by omega) ?_
      show Ev X k_X9_append (108, [some (vr 135), some (vi (vv 0)), some (vi (vv 1)), some (vi (vv 2)), some (vi (vv 3)), some (vi (vv 4)), some (vi (k : Int)), some (vi (vv 0))], [vi (8 * ((k % 4) : Int)), vi 24, vi (vv 0), vi (4 * (fl : Int) + (k : Int)), vr 139]) (MS I J cc ss) _
      refine ev_sub (z := 24 - 8 * ((k % 4) : Int)) rfl (by omega) (by omega) (by omega) ?_
      show Ev X k_X9_append (109, [some (vr 135), some (vi (vv 0)), some (vi (vv 1)), some (vi (vv 2)), some (vi (vv 3)), some (vi (vv 4)), some (vi (k : Int)), some (vi (vv 0))], [vi (24 - 8 * ((k % 4) : Int)), vi (vv 0), vi (4 * (fl : Int) + (k : Int)), vr 139]) (MS I J cc ss) _
      refine ev_n (fr' := (114, [some (vr 135), some (vi (vv 0)), some (vi (vv 1)), some (vi (vv 2)), some (vi (vv 3)), some (vi (vv 4)), some (vi (k : Int)), some (vi (vv 0))], [vi (opI (· &&& ·) (opI fShr (vv 0) (24 - 8 * ((k % 4) : Int))) 255), vi (4 * (fl : Int) + (k : Int)), vr 139])) (S' := MS I J cc ss) 3 rfl ?_
      refine ev_eqi ((congrArg (fun q => opI (· &&& ·) (opI fShr (vv 0) q) 255) (show 24 - 8 * ((k % 4 : Nat) : Int) = ((24 - 8 * (k % 4) : Nat) : Int) by omega)).trans (by_shr _ _)) ?_
      show Ev X k_X9_append (114, [some (vr 135), some (vi (vv 0)), some (vi (vv 1)), some (vi (vv 2)), some (vi (vv 3)), some (vi (vv 4)), some (vi (k : Int)), some (vi (vv 0))], [vi (byF (vv 0) (k % 4)), vi (4 * (fl : Int) + (k : Int)), vr 139]) (MS I J cc ss) _
      refine ev_iasN (j := 4 * fl + k) rfl rfl (by omega) (by omega) ?_
      show Ev X k_X9_append (115, [some (vr 135), some (vi (vv 0)), some (vi (vv 1)), some (vi (vv 2)), some (vi (vv 3)), some (vi (vv 4)), some (vi (k : Int)), some (vi (vv 0))], []) (MS (up2 I 139 (4 * fl + k) (byF (vv 0) (k % 4))) J cc ss) _
      refine ev_n (fr' := (120, [some (vr 135), some (vi (vv 0)), some (vi (vv 1)), some (vi (vv 2)), some (vi (vv 3)), some (vi (vv 4)), some (vi (k : Int)), some (vi (vv 0))], [vi (I 135 6), vr 135])) (S' := MS (up2 I 139 (4 * fl + k) (byF (vv 0) (k % 4))) J cc ss) 3 rfl ?_
      refine ev_eqi (h6) ?_
      show Ev X k_X9_append (120, [some (vr 135), some (vi (vv 0)), some (vi (vv 1)), some (vi (vv 2)), some (vi (vv 3)), some (vi (vv 4)), some (vi (k : Int)), some (vi (vv 0))], [vi (4 * (fl : Int) + (k : Int)), vr 135]) (MS (up2 I 139 (4 * fl + k) (byF (vv 0) (k % 4))) J cc ss) _
      refine ev_n (fr' := (121, [some (vr 135), some (vi (vv 0)), some (vi (vv 1)), some (vi (vv 2)), some (vi (vv 3)), some (vi (vv 4)), some (vi (k : Int)), some (vi (vv 0))], [vi 1, vi (4 * (fl : Int) + (k : Int)), vr 135])) (S' := MS (up2 I 139 (4 * fl + k) (byF (vv 0) (k % 4))) J cc ss) 1 rfl ?_
      refine ev_add (z := 4 * (fl : Int) + (k : Int) + 1) rfl (by omega) (by omega) (by omega) ?_
      show Ev X k_X9_append (122, [some (vr 135), some (vi (vv 0)), some (vi (vv 1)), some (vi (vv 2)), some (vi (vv 3)), some (vi (vv 4)), some (vi (k : Int)), some (vi (vv 0))], [vi (4 * (fl : Int) + (k : Int) + 1), vr 135]) (MS (up2 I 139 (4 * fl + k) (byF (vv 0) (k % 4))) J cc ss) _
      refine ev_n (fr' := (125, [some (vr 135), some (vi (vv 0)), some (vi (vv 1)), some (vi (vv 2)), some (vi (vv 3)), some (vi (vv 4)), some (vi (k : Int)), some (vi (vv 0))], [])) (S' := MS (up2 (up2 I 139 (4 * fl + k) (byF (vv 0) (k % 4))) 135 6 (4 * (fl : Int) + (k : Int) + 1)) J cc ss) 1 rfl ?_
      refine ev_inc (z := (k : Int) + 1) rfl rfl (by omega) (by omega) (by omega) rfl ?_
      show Ev X k_X9_append (128, [some (vr 135), some (vi (vv 0)), some (vi (vv 1)), some (vi (vv 2)), some (vi (vv 3)), some (vi (vv 4)), some (vi ((k : Int) + 1)), some (vi (vv 0))], []) (MS (up2 (up2 I 139 (4 * fl + k) (byF (vv 0) (k % 4))) 135 6 (4 * (fl : Int) + (k : Int) + 1)) J cc ss) _
      refine ev_n (fr' := (34, [some (vr 135), some (vi (vv 0)), some (vi (vv 1)), some (vi (vv 2)), some (vi (vv 3)), some (vi (vv 4)), some (vi ((k : Int) + 1)), some (vi (vv 0))], [])) (S' := MS (up2 (up2 I 139 (4 * fl + k) (byF (vv 0) (k % 4))) 135 6 (4 * (fl : Int) + (k : Int) + 1)) J cc ss) 1 rfl ?_
      refine lp_ap X _ J cc ss I0 hf h0 (k + 1) (by omega) (by rw [up2_same]; omega) (fun j hj => ?_) (fun j hj => ?_) (fun a h1 h2 => by rw [up2_row _ _ _ _ h1, up2_row _ _ _ _ h2]; refine hA a h1 h2) (fun f hf => by rw [up2_ne2 _ _ _ _ hf, up2_row _ _ _ _ (by decide)]; refine hB f hf) _
      · rw [up2_row _ _ _ _ (by decide), up2_ne2 _ _ _ _ (by omega)]; exact hC j hj
      · rw [up2_row _ _ _ _ (by decide)]
        by_cases e : j = k
        · rw [e, up2_same, show k / 4 = 0 by omega]
        · rw [up2_ne2 _ _ _ _ (by omega)]; exact hD j (by omega)
termination_by 20 - k
decreasing_by all_goals omega
theorem rb_append_x (X : AX) (I J : Nat → Nat → Int) (cc ss : Nat) {vv : Nat → Int} {tx : F1} {fl : Nat} (hX : TXr I tx fl) (h : ¬ 4 * (fl : Int) + 20 ≤ 900) : Ev X k_X9_append (0, [some (vr 135), some (vi (vv 0)), some (vi (vv 1)), some (vi (vv 2)), some (vi (vv 3)), some (vi (vv 4)), none, none], []) (MS I J cc ss) (fun o T => o = .inl (some (vi 0)) ∧ T = MS (up2 I 135 4 1) J cc ss) := by
  have h225 := hX.2.1
  refine ev_n (fr' := (5, [some (vr 135), some (vi (vv 0)), some (vi (vv 1)), some (vi (vv 2)), some (vi (vv 3)), some (vi (vv 4)), none, none], [vi (I 135 6), vr 135])) (S' := MS I J cc ss) 3 rfl ?_
  refine ev_eqi (hX.1) ?_
  show Ev X k_X9_append (5, [some (vr 135), some (vi (vv 0)), some (vi (vv 1)), some (vi (vv 2)), some (vi (vv 3)), some (vi (vv 4)), none, none], [vi (4 * (fl : Int)), vr 135]) (MS I J cc ss) _
  refine ev_n (fr' := (7, [some (vr 135), some (vi (vv 0)), some (vi (vv 1)), some (vi (vv 2)), some (vi (vv 3)), some (vi (vv 4)), none, none], [vi 20, vi (4 * (fl : Int)), vr 135])) (S' := MS I J cc ss) 1 rfl ?_
  refine ev_add (z := 4 * (fl : Int) + 20) rfl (by omega) (by omega) (by omega) ?_
  show Ev X k_X9_append (8, [some (vr 135), some (vi (vv 0)), some (vi (vv 1)), some (vi (vv 2)), some (vi (vv 3)), some (vi (vv 4)), none, none], [vi (4 * (fl : Int) + 20), vr 135]) (MS I J cc ss) _
  refine ev_n (fr' := (11, [some (vr 135), some (vi (vv 0)), some (vi (vv 1)), some (vi (vv 2)), some (vi (vv 3)), some (vi (vv 4)), none, none], [vi 900, vi (4 * (fl : Int) + 20), vr 135])) (S' := MS I J cc ss) 1 rfl ?_
  refine ev_ic (c := .le) (off := 7) rfl (by decide) (fun (g1 : 4 * (fl : Int) + 20 ≤ 900) => False.elim (by omega)) (fun (g1 : ¬ (4 * (fl : Int) + 20 ≤ 900)) => ?_)
  show Ev X k_X9_append (14, [some (vr 135), some (vi (vv 0)), some (vi (vv 1)), some (vi (vv 2)), some (vi (vv 3)), some (vi (vv 4)), none, none], [vr 135]) (MS I J cc ss) _
  refine ev_n (fr' := (19, [some (vr 135), some (vi (vv 0)), some (vi (vv 1)), some (vi (vv 2)), some (vi (vv 3)), some (vi (vv 4)), none, none], [vi 1, vr 135])) (S' := MS I J cc ss) 2 rfl ?_
  refine ev_n (fr' := (22, [some (vr 135), some (vi (vv 0)), some (vi (vv 1)), some (vi (vv 2)), some (vi (vv 3)), some (vi (vv 4)), none, none], [])) (S' := MS (up2 I 135 4 1) J cc ss) 1 rfl ?_
  refine ev_n (fr' := (30, [some (vr 135), some (vi (vv 0)), some (vi (vv 1)), some (vi (vv 2)), some (vi (vv 3)), some (vi (vv 4)), none, none], [vi 0])) (S' := MS (up2 I 135 4 1) J cc ss) 4 rfl ?_
  refine ev_r rfl rfl rfl ?_
  exact ⟨rfl, rfl⟩
theorem rb_append (X : AX) (I J : Nat → Nat → Int) (cc ss : Nat) {vv : Nat → Int} {tx : F1} {fl : Nat} (hX : TXr I tx fl) (h : 4 * (fl : Int) + 20 ≤ 900) : Ev X k_X9_append (0, [some (vr 135), some (vi (vv 0)), some (vi (vv 1)), some (vi (vv 2)), some (vi (vv 3)), some (vi (vv 4)), none, none], []) (MS I J cc ss) (PV cc ss (some (vi (4 * ((fl + 5 : Nat) : Int)))) (fun I' J' => J' = J ∧ (∀ a, a ≠ 135 → a ≠ 139 → I' a = (up2 I 135 4 0) a) ∧ (∀ f, f ≠ 6 → I' 135 f = (up2 I 135 4 0) 135 f) ∧ TXr I' (ap5 tx fl vv) (fl + 5))) := by
  have h225 := hX.2.1
  refine ev_n (fr' := (5, [some (vr 135), some (vi (vv 0)), some (vi (vv 1)), some (vi (vv 2)), some (vi (vv 3)), some (vi (vv 4)), none, none], [vi (I 135 6), vr 135])) (S' := MS I J cc ss) 3 rfl ?_
  refine ev_eqi (hX.1) ?_
  show Ev X k_X9_append (5, [some (vr 135), some (vi (vv 0)), some (vi (vv 1)), some (vi (vv 2)), some (vi (vv 3)), some (vi (vv 4)), none, none], [vi (4 * (fl : Int)), vr 135]) (MS I J cc ss) _
  refine ev_n (fr' := (7, [some (vr 135), some (vi (vv 0)), some (vi (vv 1)), some (vi (vv 2)), some (vi (vv 3)), some (vi (vv 4)), none, none], [vi 20, vi (4 * (fl : Int)), vr 135])) (S' := MS I J cc ss) 1 rfl ?_
  refine ev_add (z := 4 * (fl : Int) + 20) rfl (by omega) (by omega) (by omega) ?_
  show Ev X k_X9_append (8, [some (vr 135), some (vi (vv 0)), some (vi (vv 1)), some (vi (vv 2)), some (vi (vv 3)), some (vi (vv 4)), none, none], [vi (4 * (fl : Int) + 20), vr 135]) (MS I J cc ss) _
  refine ev_n (fr' := (11, [some (vr 135), some (vi (vv 0)), some (vi (vv 1)), some (vi (vv 2)), some (vi (vv 3)), some (vi (vv 4)), none, none], [vi 900, vi (4 * (fl : Int) + 20), vr 135])) (S' := MS I J cc ss) 1 rfl ?_
  refine ev_ic (c := .le) (off := 7) rfl (by decide) (fun (g1 : 4 * (fl : Int) + 20 ≤ 900) => ?_) (fun (g1 : ¬ (4 * (fl : Int) + 20 ≤ 900)) => False.elim (by omega))
  show Ev X k_X9_append (18, [some (vr 135), some (vi (vv 0)), some (vi (vv 1)), some (vi (vv 2)), some (vi (vv 3)), some (vi (vv 4)), none, none], [vr 135]) (MS I J cc ss) _
  refine ev_n (fr' := (19, [some (vr 135), some (vi (vv 0)), some (vi (vv 1)), some (vi (vv 2)), some (vi (vv 3)), some (vi (vv 4)), none, none], [vi 0, vr 135])) (S' := MS I J cc ss) 1 rfl ?_
  refine ev_n (fr' := (22, [some (vr 135), some (vi (vv 0)), some (vi (vv 1)), some (vi (vv 2)), some (vi (vv 3)), some (vi (vv 4)), none, none], [])) (S' := MS (up2 I 135 4 0) J cc ss) 1 rfl ?_
  refine ev_n (fr' := (34, [some (vr 135), some (vi (vv 0)), some (vi (vv 1)), some (vi (vv 2)), some (vi (vv 3)), some (vi (vv 4)), some (vi 0), none], [])) (S' := MS (up2 I 135 4 0) J cc ss) 5 rfl ?_
  exact lp_ap X _ J cc ss (up2 I 135 4 0) (by omega) (fun k hk => (hX.2.2 k hk).2) 0 (by omega) (by rw [up2_ne2 _ _ _ _ (by decide), hX.1]; omega) (fun j hj => (congrFun (up2_row _ _ _ _ (by decide)) _).trans (hX.2.2 j hj).1) (fun j hj => absurd hj (by omega)) (fun _ _ _ => rfl) (fun _ _ => rfl) _
theorem fin_inl {tx : F1} {n p' : Nat} {d' : F1} {r : (Nat × F1) ⊕ (Int × Nat)} (h : finP tx n (fun d => d) r = .inl (p', d')) : ∃ e, r = .inl (e, d') ∧ p' = spF tx n e + 1 := by
  rcases r with ⟨e, v⟩ | x
  · by_cases h1 : atF tx n (spF tx n e) = 59
    · rw [fin_1 h1] at h; cases h; exact ⟨e, rfl, rfl⟩
    · rw [fin_0 h1] at h; cases h
  · cases h
def LQ (I J : F2) (r : F1 ⊕ (Int × Nat)) : Prop := match r with
  | .inl d' => I 135 11 = 0 ∧ J 137 = d'
  | .inr (c, s) => EE I c s
theorem rStm_1 {tx : F1} {n a : Nat} {d : F1} (h : wdF tx n a = 632645) : rStm tx n d a = finP tx n (fun d => d) (pSz false tx n d a (leF tx n a)) := if_pos h
theorem rStm_2 {tx : F1} {n a : Nat} {d : F1} (h : wdF tx n a = 525908) : rStm tx n d a = rPt tx n d (d 11).toNat a := by
  unfold rStm; rw [if_neg (by omega), if_pos h]
theorem rStm_3 {tx : F1} {n a : Nat} {d : F1} (h : wdF tx n a = 298478) : rStm tx n d a = rIc tx n d (d 308).toNat a := by
  unfold rStm; rw [if_neg (by omega), if_neg (by omega), if_pos h]
theorem lp_ld (X : AX) (I J : Nat → Nat → Int) (cc ss : Nat) {Q : (Option AV ⊕ Nat) → AS → Prop} (I0 J0 : F2) {tx : F1} {n : Nat} (hR : RB I tx n) (p m : Nat) (hpn : p ≤ n) (hm : n ≤ m + p) (hK : TK I J tx n (spF tx n p)) (hw0 : I 135 11 = 0) {d : F1} (hd : J 137 = d) (hw : WF d) (hz : ZD d) (hO : onlyF I0 I J0 J) (hR0 : True ∧ ∀ I' J', onlyF I0 I' J0 J' → RB I' tx n) (K : ∀ I' J', onlyF I0 I' J0 J' → LQ I' J' (pSet true tx n m d p) → Ev X k_X9_load (150, [some (vr 135), some (vi (n : Int)), some (vi 477)], []) (MS I' J' cc ss) Q) : Ev X k_X9_load (78, [some (vr 135), some (vi (n : Int)), some (vi 477)], []) (MS I J cc ss) (Q) := by
  have hd0 := hw.1.1
  have hd11 := hw.2.1.1
  have hd8 := hw.2.1.2.1
  have hd308 := hw.2.2.1
  have hd309 := hw.2.2.2.1
  refine ev_n (fr' := (82, [some (vr 135), some (vi (n : Int)), some (vi 477)], [vi (I 135 11)])) (S' := MS I J cc ss) 2 rfl ?_
  refine ev_eqi (hw0) ?_
  show Ev X k_X9_load (82, [some (vr 135), some (vi (n : Int)), some (vi 477)], [vi 0]) (MS I J cc ss) _
  refine ev_n (fr' := (89, [some (vr 135), some (vi (n : Int)), some (vi 477)], [vi (I 135 10)])) (S' := MS I J cc ss) 3 rfl ?_
  refine ev_eqi (hK.2.2.2.2.1) ?_
  show Ev X k_X9_load (89, [some (vr 135), some (vi (n : Int)), some (vi 477)], [vi (kdF tx n (spF tx n p))]) (MS I J cc ss) _
  refine ev_n (fr' := (90, [some (vr 135), some (vi (n : Int)), some (vi 477)], [vi 3, vi (kdF tx n (spF tx n p))])) (S' := MS I J cc ss) 1 rfl ?_
  refine ev_ic (c := .eq) (off := 60) rfl (by decide) (fun (g1 : (kdF tx n (spF tx n p)) = 3) => ?_) (fun (g1 : ¬ ((kdF tx n (spF tx n p)) = 3)) => ?_)
  · show Ev X k_X9_load (150, [some (vr 135), some (vi (n : Int)), some (vi 477)], []) (MS I J cc ss) _
    exact K _ _ hO (by rw [pSet_end (kd_3.mp (by assumption))]; exact ⟨hw0, hd⟩)
  · show Ev X k_X9_load (93, [some (vr 135), some (vi (n : Int)), some (vi 477)], []) (MS I J cc ss) _
    have hne : ¬ n ≤ spF tx n p := fun h => g1 (kd_3.mpr h)
    refine ev_n (fr' := (96, [some (vr 135), some (vi (n : Int)), some (vi 477)], [vr 1000100, vr 135])) (S' := MS I J cc ss) 2 rfl ?_
    refine ev_cv rfl rfl rfl ⟨Nat.le_of_ble_eq_true rfl, Nat.le_of_ble_eq_true rfl⟩ (sp_isWord_0 X _ _ _ _ hR (spF tx n p) hK hw0) ?_
    show Ev X k_X9_load (99, [some (vr 135), some (vi (n : Int)), some (vi 477)], [vi (if wdF tx n (spF tx n p) = 632645 then 1 else 0)]) (MS I J cc ss) _
    refine ev_beq _ rfl (by decide) (fun (g2 : ¬ (wdF tx n (spF tx n p) = 632645)) => ?_) (fun (g2 : wdF tx n (spF tx n p) = 632645) => ?_)
    · show Ev X k_X9_load (109, [some (vr 135), some (vi (n : Int)), some (vi 477)], []) (MS I J cc ss) _
      refine ev_n (fr' := (112, [some (vr 135), some (vi (n : Int)), some (vi 477)], [vr 1000102, vr 135])) (S' := MS I J cc ss) 2 rfl ?_
      refine ev_cv rfl rfl rfl ⟨Nat.le_of_ble_eq_true rfl, Nat.le_of_ble_eq_true rfl⟩ (sp_isWord_2 X _ _ _ _ hR (spF tx n p) hK hw0) ?_
      show Ev X k_X9_load (115, [some (vr 135), some (vi (n : Int)), some (vi 477)], [vi (if wdF tx n (spF tx n p) = 525908 then 1 else 0)]) (MS I J cc ss) _
      refine ev_beq _ rfl (by decide) (fun (g3 : ¬ (wdF tx n (spF tx n p) = 525908)) => ?_) (fun (g3 : wdF tx n (spF tx n p) = 525908) => ?_)
      · show Ev X k_X9_load (125, [some (vr 135), some (vi (n : Int)), some (vi 477)], []) (MS I J cc ss) _
        refine ev_n (fr' := (128, [some (vr 135), some (vi (n : Int)), some (vi 477)], [vr 1000106, vr 135])) (S' := MS I J cc ss) 2 rfl ?_
        refine ev_cv rfl rfl rfl ⟨Nat.le_of_ble_eq_true rfl, Nat.le_of_ble_eq_true rfl⟩ (sp_isWord_6 X _ _ _ _ hR (spF tx n p) hK hw0) ?_
        show Ev X k_X9_load (131, [some (vr 135), some (vi (n : Int)), some (vi 477)], [vi (if wdF tx n (spF tx n p) = 298478 then 1 else 0)]) (MS I J cc ss) _
        refine ev_beq _ rfl (by decide) (fun (g4 : ¬ (wdF tx n (spF tx n p) = 298478)) => ?_) (fun (g4 : wdF tx n (spF tx n p) = 298478) => ?_)
        · show Ev X k_X9_load (141, [some (vr 135), some (vi (n : Int)), some (vi 477)], []) (MS I J cc ss) _
          refine ev_n (fr' := (144, [some (vr 135), some (vi (n : Int)), some (vi 477)], [vi (-2), vr 135])) (S' := MS I J cc ss) 2 rfl ?_
          refine ev_cv rfl rfl rfl ⟨Nat.le_of_ble_eq_true rfl, Nat.le_of_ble_eq_true rfl⟩ (sp_fails X _ _ _ _ (-2) (spF tx n p) hw0 hK.2.2.1) ?_
          show Ev X k_X9_load (147, [some (vr 135), some (vi (n : Int)), some (vi 477)], []) (MS (up2 (up2 I 135 11 (-2)) 135 12 (spF tx n p : Int)) J cc ss) _
          have hwE : (up2 (up2 I 135 11 (-2)) 135 12 (spF tx n p : Int)) 135 11 ≠ 0 := EE.ne (EE.mk (by decide))
          refine ev_n (fr' := (78, [some (vr 135), some (vi (n : Int)), some (vi 477)], [])) (S' := MS (up2 (up2 I 135 11 (-2)) 135 12 (spF tx n p : Int)) J cc ss) 1 rfl ?_
          have hp0 := spF_ge (tx := tx) (n := n) p
          obtain ⟨m2, rfl⟩ : ∃ m2, m = m2 + 1 := ⟨m - 1, by omega⟩
          have hLQ : LQ (up2 (up2 I 135 11 (-2)) 135 12 (spF tx n p : Int)) J (pSet true tx n (m2 + 1) d p) := by
            rw [pSet_f hne, pStm_4 (by assumption) (by assumption) (by assumption)]; exact EE.mk (by decide)
          have hO := hO.e (c := -2) (p := (spF tx n p : Int))
          refine ev_n (fr' := (150, [some (vr 135), some (vi (n : Int)), some (vi 477)], [])) (S' := MS (up2 (up2 I 135 11 (-2)) 135 12 (spF tx n p : Int)) J cc ss) 3 rfl ?_
          exact K _ _ hO hLQ
        · show Ev X k_X9_load (134, [some (vr 135), some (vi (n : Int)), some (vi 477)], []) (MS I J cc ss) _
          refine ev_n (fr' := (135, [some (vr 135), some (vi (n : Int)), some (vi 477)], [vr 135])) (S' := MS I J cc ss) 1 rfl ?_
          have hg9 := g4
          refine ev_cp rfl rfl rfl ⟨Nat.le_of_ble_eq_true rfl, Nat.le_of_ble_eq_true rfl⟩ (sp_readsIcon X _ _ _ _ hR (spF tx n p) hK hw0 hg9 hd (d 308).toNat (by omega) (by omega) ⟨hd11, hd8⟩ hz.2) (fun I1 J2 q3 => ?_)
          obtain ⟨hO9, hz9⟩ := q3
          rw [← rStm_3 hg9, rStm_eq hw hz] at hz9
          rcases hr1 : finP tx n (fun d => d) (pStm true tx n d (spF tx n p)) with ⟨p1, d1⟩ | ⟨c1, s1⟩ <;> rw [hr1] at hz9
          · obtain ⟨hK, hw0, hd, hen⟩ := hz9
            have hO := hO.trans hO9
            show Ev X k_X9_load (138, [some (vr 135), some (vi (n : Int)), some (vi 477)], []) (MS I1 J2 cc ss) _
            refine ev_n (fr' := (78, [some (vr 135), some (vi (n : Int)), some (vi 477)], [])) (S' := MS I1 J2 cc ss) 1 rfl ?_
            have hp0 := spF_ge (tx := tx) (n := n) p
            obtain ⟨m2, rfl⟩ : ∃ m2, m = m2 + 1 := ⟨m - 1, by omega⟩
            obtain ⟨e9, he9, hp9⟩ := fin_inl hr1
            have hok := pStm_ok hw he9
            have hzd := pStm_zd hw hz he9
            have hg2 := spF_ge (tx := tx) (n := n) e9
            have hg3 := spF_ge (tx := tx) (n := n) p
            exact lp_ld X _ _ cc ss I0 J0 (hR0.2 _ _ hO) p1 m2 (by omega) (by omega) hK hw0 hd hok.2 hzd hO hR0 (fun I' J' h1 h2 => K I' J' h1 (by rw [pSet_f hne, hr1]; exact h2))
          · have hE := hz9
            have hwE := hE.ne
            have hO := hO.trans hO9
            show Ev X k_X9_load (138, [some (vr 135), some (vi (n : Int)), some (vi 477)], []) (MS I1 J2 cc ss) _
            refine ev_n (fr' := (78, [some (vr 135), some (vi (n : Int)), some (vi 477)], [])) (S' := MS I1 J2 cc ss) 1 rfl ?_
            have hp0 := spF_ge (tx := tx) (n := n) p
            obtain ⟨m2, rfl⟩ : ∃ m2, m = m2 + 1 := ⟨m - 1, by omega⟩
            have hLQ : LQ I1 J2 (pSet true tx n (m2 + 1) d p) := by rw [pSet_f hne, hr1]; exact hE
            refine ev_n (fr' := (82, [some (vr 135), some (vi (n : Int)), some (vi 477)], [vi (I1 135 11)])) (S' := MS I1 J2 cc ss) 2 rfl ?_
            refine ev_if (c := .ne) (off := 68) rfl (by decide) (fun (g5 : (I1 135 11) ≠ 0) => ?_) (fun (g5 : ¬ ((I1 135 11) ≠ 0)) => False.elim (g5 hwE))
            show Ev X k_X9_load (150, [some (vr 135), some (vi (n : Int)), some (vi 477)], []) (MS I1 J2 cc ss) _
            exact K _ _ hO hLQ
      · show Ev X k_X9_load (118, [some (vr 135), some (vi (n : Int)), some (vi 477)], []) (MS I J cc ss) _
        refine ev_n (fr' := (119, [some (vr 135), some (vi (n : Int)), some (vi 477)], [vr 135])) (S' := MS I J cc ss) 1 rfl ?_
        have hg9 := g3
        refine ev_cp rfl rfl rfl ⟨Nat.le_of_ble_eq_true rfl, Nat.le_of_ble_eq_true rfl⟩ (sp_readsPart X _ _ _ _ hR (spF tx n p) hK hw0 hg9 hd (d 11).toNat (by omega) (by omega) ⟨hd11, hd8⟩ hz.1) (fun I4 J5 q6 => ?_)
        obtain ⟨hO9, hz9⟩ := q6
        rw [← rStm_2 hg9, rStm_eq hw hz] at hz9
        rcases hr1 : finP tx n (fun d => d) (pStm true tx n d (spF tx n p)) with ⟨p1, d1⟩ | ⟨c1, s1⟩ <;> rw [hr1] at hz9
        · obtain ⟨hK, hw0, hd, hen⟩ := hz9
          have hO := hO.trans hO9
          show Ev X k_X9_load (122, [some (vr 135), some (vi (n : Int)), some (vi 477)], []) (MS I4 J5 cc ss) _
          refine ev_n (fr' := (78, [some (vr 135), some (vi (n : Int)), some (vi 477)], [])) (S' := MS I4 J5 cc ss) 1 rfl ?_
          have hp0 := spF_ge (tx := tx) (n := n) p
          obtain ⟨m2, rfl⟩ : ∃ m2, m = m2 + 1 := ⟨m - 1, by omega⟩
          obtain ⟨e9, he9, hp9⟩ := fin_inl hr1
          have hok := pStm_ok hw he9
          have hzd := pStm_zd hw hz he9
          have hg2 := spF_ge (tx := tx) (n := n) e9
          have hg3 := spF_ge (tx := tx) (n := n) p
          exact lp_ld X _ _ cc ss I0 J0 (hR0.2 _ _ hO) p1 m2 (by omega) (by omega) hK hw0 hd hok.2 hzd hO hR0 (fun I' J' h1 h2 => K I' J' h1 (by rw [pSet_f hne, hr1]; exact h2))
        · have hE := hz9
          have hwE := hE.ne
          have hO := hO.trans hO9
          show Ev X k_X9_load (122, [some (vr 135), some (vi (n : Int)), some (vi 477)], []) (MS I4 J5 cc ss) _
          refine ev_n (fr' := (78, [some (vr 135), some (vi (n : Int)), some (vi 477)], [])) (S' := MS I4 J5 cc ss) 1 rfl ?_
          have hp0 := spF_ge (tx := tx) (n := n) p
          obtain ⟨m2, rfl⟩ : ∃ m2, m = m2 + 1 := ⟨m - 1, by omega⟩
          have hLQ : LQ I4 J5 (pSet true tx n (m2 + 1) d p) := by rw [pSet_f hne, hr1]; exact hE
          refine ev_n (fr' := (82, [some (vr 135), some (vi (n : Int)), some (vi 477)], [vi (I4 135 11)])) (S' := MS I4 J5 cc ss) 2 rfl ?_
          refine ev_if (c := .ne) (off := 68) rfl (by decide) (fun (g6 : (I4 135 11) ≠ 0) => ?_) (fun (g6 : ¬ ((I4 135 11) ≠ 0)) => False.elim (g6 hwE))
          show Ev X k_X9_load (150, [some (vr 135), some (vi (n : Int)), some (vi 477)], []) (MS I4 J5 cc ss) _
          exact K _ _ hO hLQ
    · show Ev X k_X9_load (102, [some (vr 135), some (vi (n : Int)), some (vi 477)], []) (MS I J cc ss) _
      refine ev_n (fr' := (103, [some (vr 135), some (vi (n : Int)), some (vi 477)], [vr 135])) (S' := MS I J cc ss) 1 rfl ?_
      have hg9 := g2
      refine ev_cp rfl rfl rfl ⟨Nat.le_of_ble_eq_true rfl, Nat.le_of_ble_eq_true rfl⟩ (sp_readsSize X _ _ _ _ hR (spF tx n p) hK hw0 hg9 hd hw.1 (d 0).toNat (by omega)) (fun I7 J8 q9 => ?_)
      obtain ⟨hO9, hz9⟩ := q9
      rw [← rStm_1 hg9, rStm_eq hw hz] at hz9
      rcases hr1 : finP tx n (fun d => d) (pStm true tx n d (spF tx n p)) with ⟨p1, d1⟩ | ⟨c1, s1⟩ <;> rw [hr1] at hz9
      · obtain ⟨hK, hw0, hd, hen⟩ := hz9
        have hO := hO.trans hO9
        show Ev X k_X9_load (106, [some (vr 135), some (vi (n : Int)), some (vi 477)], []) (MS I7 J8 cc ss) _
        refine ev_n (fr' := (78, [some (vr 135), some (vi (n : Int)), some (vi 477)], [])) (S' := MS I7 J8 cc ss) 1 rfl ?_
        have hp0 := spF_ge (tx := tx) (n := n) p
        obtain ⟨m2, rfl⟩ : ∃ m2, m = m2 + 1 := ⟨m - 1, by omega⟩
        obtain ⟨e9, he9, hp9⟩ := fin_inl hr1
        have hok := pStm_ok hw he9
        have hzd := pStm_zd hw hz he9
        have hg2 := spF_ge (tx := tx) (n := n) e9
        have hg3 := spF_ge (tx := tx) (n := n) p
        exact lp_ld X _ _ cc ss I0 J0 (hR0.2 _ _ hO) p1 m2 (by omega) (by omega) hK hw0 hd hok.2 hzd hO hR0 (fun I' J' h1 h2 => K I' J' h1 (by rw [pSet_f hne, hr1]; exact h2))
      · have hE := hz9
        have hwE := hE.ne
        have hO := hO.trans hO9
        show Ev X k_X9_load (106, [some (vr 135), some (vi (n : Int)), some (vi 477)], []) (MS I7 J8 cc ss) _
        refine ev_n (fr' := (78, [some (vr 135), some (vi (n : Int)), some (vi 477)], [])) (S' := MS I7 J8 cc ss) 1 rfl ?_
        have hp0 := spF_ge (tx := tx) (n := n) p
        obtain ⟨m2, rfl⟩ : ∃ m2, m = m2 + 1 := ⟨m - 1, by omega⟩
        have hLQ : LQ I7 J8 (pSet true tx n (m2 + 1) d p) := by rw [pSet_f hne, hr1]; exact hE
        refine ev_n (fr' := (82, [some (vr 135), some (vi (n : Int)), some (vi 477)], [vi (I7 135 11)])) (S' := MS I7 J8 cc ss) 2 rfl ?_
        refine ev_if (c := .ne) (off := 68) rfl (by decide) (fun (g7 : (I7 135 11) ≠ 0) => ?_) (fun (g7 : ¬ ((I7 135 11) ≠ 0)) => False.elim (g7 hwE))
        show Ev X k_X9_load (150, [some (vr 135), some (vi (n : Int)), some (vi 477)], []) (MS I7 J8 cc ss) _
        exact K _ _ hO hLQ
termination_by m
decreasing_by all_goals omega
