/-! THE CLASS reads parts and icons (printed by gen/g95.py) -/
theorem CI.rw {P : F2 → F1 → Prop} {P' : F2 → F2 → F1 → Prop} {R n : Nat} {I I1 I2 J J1 : F2} {r : (Nat × F1) ⊕ (Int × Nat)} {z : Int} (h : CI P R I1 I2 n (fun d => d) r z) (hR : 113 < R) (h0 : onlyRw R I I1 J J1) (h7 : I1 111 7 = I 111 7) (hP : ∀ I d, P I d → P' I J1 d) : CRw P' R I I2 J J1 n r z := by
  obtain ⟨h1, h2⟩ := h
  refine ⟨⟨fun a q1 q2 q3 q4 => (h1.1 a q1 q3 q4).trans (h0.1 a q1 q2 q3 q4), h1.2.trans h0.2.1, h0.2.2.1, (congrFun (h1.1 R (by omega) (by omega) (by omega)) 0).trans h0.2.2.2⟩, ?_⟩
  rcases r with ⟨e, v⟩ | ⟨c, s⟩
  · obtain ⟨a1, a2, a3, a4, a5⟩ := h2
    exact ⟨a1, a2, a3, a4.trans h7, hP _ _ a5⟩
  · exact h2
theorem onlyRw.e {R : Nat} {I0 I J0 J : F2} {c s : Int} (h : onlyRw R I0 I J0 J) (hR : 113 < R) : onlyRw R I0 (up2 (up2 I 111 6 c) 111 7 s) J0 J := ⟨fun a h1 h2 h3 h4 => by rw [up2_row _ _ _ _ h1, up2_row _ _ _ _ h1]; exact h.1 a h1 h2 h3 h4, by rw [up2_ne2 _ _ _ _ (by decide), up2_ne2 _ _ _ _ (by decide)]; exact h.2.1, h.2.2.1, by rw [up2_row _ _ _ _ (show R ≠ 111 by omega), up2_row _ _ _ _ (show R ≠ 111 by omega)]; exact h.2.2.2⟩
theorem onlyT.rw {R : Nat} {I I' J : F2} (h : onlyT I I') (hR : 113 < R) : onlyRw R I I' J J := ⟨fun a h1 _ _ _ => h.1 a h1, h.2, fun _ _ => rfl, congrFun (h.1 R (by omega)) 0⟩
theorem onlyRw.refl (R : Nat) (I J : F2) : onlyRw R I I J J := ⟨fun _ _ _ _ _ => rfl, rfl, fun _ _ => rfl, rfl⟩
theorem onlyRw.trans {R : Nat} {I I' I2 J J' J2 : F2} (h : onlyRw R I I' J J') (h2 : onlyRw R I' I2 J' J2) : onlyRw R I I2 J J2 := ⟨fun a q1 q2 q3 q4 => (h2.1 a q1 q2 q3 q4).trans (h.1 a q1 q2 q3 q4), h2.2.1.trans h.2.1, fun a ha => (h2.2.2.1 a ha).trans (h.2.2.1 a ha), h2.2.2.2.trans h.2.2.2⟩
theorem onlyRw.row {R : Nat} {I J : F2} {n : Nat} {y x : Int} (hR : 113 < R) : onlyRw R I (up2 (up2 I (R + 2) n 0) R 4 y) J (up2 J (R + 1) n x) := ⟨fun a h1 h2 h3 h4 => by rw [up2_row _ _ _ _ h2, up2_row _ _ _ _ h3], by rw [up2_row _ _ _ _ (show 111 ≠ R by omega), up2_row _ _ _ _ (show 111 ≠ R + 2 by omega)], fun a ha => up2_row _ _ _ _ ha, by rw [up2_ne2 _ _ _ _ (by decide), up2_row _ _ _ _ (show R ≠ R + 2 by omega)]⟩
theorem lay_len {I J : F2} {c s : Nat} : (lay (MS I J c s)).length = 146 := show LAY0.length = 146 by decide +kernel
section AC
variable {X : AX} {k pc a b : Nat} {L : ALs} {r : List AV} {S : AS} {Q : (Option AV ⊕ Nat) → AS → Prop} {off : Int} {ax : Nat × Nat × Nat}
theorem ev_acn (hcd : cdAt k pc = some (.if_acmp .ne off, 3, ax)) (hl : (lay S).length = 146) (h : a < 146 ∧ b < 146) (h0 : 0 ≤ (pc : Int) + off) (he : Ev X k (if a = b then pc + 3 else tgt pc off, L, r) S Q) : Ev X k (pc, L, vr b :: vr a :: r) S Q := by
  refine ev_1 (fr' := (if a = b then pc + 3 else tgt pc off, L, r)) (S' := S) ?_ he
  unfold sp1
  rw [show ((pc, L, vr b :: vr a :: r) : AF).1 = pc from rfl, hcd]
  show (match ctl (.if_acmp .ne off) 3 ax (pc, L, vr b :: vr a :: r) S with | some (.inl r) => some r | _ => none) = _
  have hc : ctl (.if_acmp .ne off) 3 ax (pc, L, vr b :: vr a :: r) S = some (.inl ((if a = b then pc + 3 else tgt pc off, L, r), S)) := by
    show (if a < (lay S).length ∧ b < (lay S).length then (if 0 ≤ (pc : Int) + off then (if a = b then (some (Sum.inl ((pc + 3, L, r), S)) : Option AR) else some (Sum.inl ((tgt pc off, L, r), S))) else none) else none) = _
    rw [hl, if_pos h, if_pos h0]
    by_cases e : a = b
    · rw [if_pos e, if_pos e]
    · rw [if_neg e, if_neg e]
  rw [hc]
end AC
theorem sp_readRowP (X : AX) (I J : Nat → Nat → Int) (cc ss : Nat) (a s : Nat) {tx : F1} {n : Nat} (hT : TB I tx n) (hn : I 111 2 = (n : Int)) (q : Nat) (hp : I 111 3 = (q : Int)) (hkn : q ≤ n) (hq4 : I 111 4 = (a : Int)) {d : F1} (dP : PRep I J 118 d) (hwp : WP d) (hs : d 11 = (s : Int)) : Ev X k_X4_readRow (0, [some (vr 111), some (vr 118), some (vi 1), none, none, none, none], []) (MS I J cc ss) (PZ cc ss (fun z I' J' => CRw (fun I J d => PRep I J 118 d) 118 I I' J J' n (pRP tx n d s a q) z)) := by
  refine ev_n (fr' := (1, [some (vr 111), some (vr 118), some (vi 1), none, none, none, none], [vr 118])) (S' := MS I J cc ss) 1 rfl ?_
  refine ev_cv rfl rfl rfl ⟨Nat.le_of_ble_eq_true rfl, Nat.le_of_ble_eq_true rfl⟩ (sp_rIsFull_118 X _ _ _ _ dP) ?_
  show Ev X k_X4_readRow (4, [some (vr 111), some (vr 118), some (vi 1), none, none, none, none], [vi (if 8 ≤ d 11 then 1 else 0)]) (MS I J cc ss) _
  refine ev_beq _ rfl (by decide) (fun (g1 : ¬ (8 ≤ d 11)) => ?_) (fun (g1 : 8 ≤ d 11) => ?_)
  · show Ev X k_X4_readRow (18, [some (vr 111), some (vr 118), some (vi 1), none, none, none, none], []) (MS I J cc ss) _
    refine ev_n (fr' := (19, [some (vr 111), some (vr 118), some (vi 1), none, none, none, none], [vr 111])) (S' := MS I J cc ss) 1 rfl ?_
    refine ev_cp rfl rfl rfl ⟨Nat.le_of_ble_eq_true rfl, Nat.le_of_ble_eq_true rfl⟩ (sp_readWord X _ _ _ _ hT hn q hp hkn) (fun I1 J q2 => ?_)
    obtain ⟨rfl, rAI1, rBI1, hp, hq4⟩ := q2
    show Ev X k_X4_readRow (22, [some (vr 111), some (vr 118), some (vi 1), none, none, none, none], [vl (wdF tx n (spF tx n q))]) (MS I1 J cc ss) _
    have hn := (rBI1 2 (by decide) (by decide)).trans hn
    have hT := hT.cell (rAI1 112 (by decide)) (rAI1 113 (by decide))
    have hkn := leF_le (tx := tx) (n := n) (spF tx n q) (spF_le (tx := tx) (n := n) q hkn)
    have hT0 := rw_T rAI1 rBI1
    have hO : onlyRw 118 I I1 J J := hT0.rw (by decide)
    have h70 := rBI1 7 (by decide) (by decide)
    have dP := dP.t (by decide) hT0
    refine ev_n (fr' := (25, [some (vr 111), some (vr 118), some (vi 1), some (vl (wdF tx n (spF tx n q))), none, none, none], [vl 0, vl (wdF tx n (spF tx n q))])) (S' := MS I1 J cc ss) 3 rfl ?_
    refine ev_lc (c := .ne) (off := 14) rfl rfl (by decide) (fun (g2 : (wdF tx n (spF tx n q)) ≠ 0) => ?_) (fun (g2 : ¬ ((wdF tx n (spF tx n q)) ≠ 0)) => ?_)
    · show Ev X k_X4_readRow (40, [some (vr 111), some (vr 118), some (vi 1), some (vl (wdF tx n (spF tx n q))), none, none, none], []) (MS I1 J cc ss) _
      refine ev_n (fr' := (42, [some (vr 111), some (vr 118), some (vi 1), some (vl (wdF tx n (spF tx n q))), none, none, none], [vl (wdF tx n (spF tx n q)), vr 118])) (S' := MS I1 J cc ss) 2 rfl ?_
      refine ev_cv rfl rfl rfl ⟨Nat.le_of_ble_eq_true rfl, Nat.le_of_ble_eq_true rfl⟩ (sp_find_118 X _ _ _ _ (wdF tx n (spF tx n q)) dP hwp) ?_
      show Ev X k_X4_readRow (45, [some (vr 111), some (vr 118), some (vi 1), some (vl (wdF tx n (spF tx n q))), none, none, none], [vi (pnmF tx n d 461 11 (spF tx n q))]) (MS I1 J cc ss) _
      refine ev_n (fr' := (46, [some (vr 111), some (vr 118), some (vi 1), some (vl (wdF tx n (spF tx n q))), none, none, none], [vi (-1), vi (pnmF tx n d 461 11 (spF tx n q))])) (S' := MS I1 J cc ss) 1 rfl ?_
      refine ev_ic (c := .eq) (off := 14) rfl (by decide) (fun (g3 : (pnmF tx n d 461 11 (spF tx n q)) = -1) => ?_) (fun (g3 : ¬ ((pnmF tx n d 461 11 (spF tx n q)) = -1)) => ?_)
      · show Ev X k_X4_readRow (60, [some (vr 111), some (vr 118), some (vi 1), some (vl (wdF tx n (spF tx n q))), none, none, none], []) (MS I1 J cc ss) _
        refine ev_n (fr' := (62, [some (vr 111), some (vr 118), some (vi 1), some (vl (wdF tx n (spF tx n q))), none, none, none], [vl (wdF tx n (spF tx n q)), vr 118])) (S' := MS I1 J cc ss) 2 rfl ?_
        refine ev_cv rfl rfl rfl ⟨Nat.le_of_ble_eq_true rfl, Nat.le_of_ble_eq_true rfl⟩ (sp_addRow_118 X _ _ _ _ s (wdF tx n (spF tx n q)) dP hs (by omega)) ?_
        show Ev X k_X4_readRow (65, [some (vr 111), some (vr 118), some (vi 1), some (vl (wdF tx n (spF tx n q))), none, none, none], [vi (s : Int)]) (MS (up2 (up2 I1 120 s 0) 118 4 ((s : Int) + 1)) (up2 J 119 s (wdF tx n (spF tx n q))) cc ss) _
        have h6 : ∀ q : Nat, (q : Int) < d 11 → d (37 * q + 12) ≤ 6 := fun q hq => (hwp.2.2 q hq).2.1
        have hs8 : s < 8 := by omega
        have dP := PRep.row (x := wdF tx n (spF tx n q)) dP hs hs8 h6
        have hO : onlyRw 118 I (up2 (up2 I1 120 s 0) 118 4 ((s : Int) + 1)) J (up2 J 119 s (wdF tx n (spF tx n q))) := hO.trans (onlyRw.row (by decide))
        have hp : (up2 (up2 I1 120 s 0) 118 4 ((s : Int) + 1)) 111 3 = _ := (show (up2 (up2 I1 120 s 0) 118 4 ((s : Int) + 1)) 111 3 = I1 111 3 by rw [up2_row _ _ _ _ (by decide), up2_row _ _ _ _ (by decide)]).trans hp
        have hn : (up2 (up2 I1 120 s 0) 118 4 ((s : Int) + 1)) 111 2 = _ := (show (up2 (up2 I1 120 s 0) 118 4 ((s : Int) + 1)) 111 2 = I1 111 2 by rw [up2_row _ _ _ _ (by decide), up2_row _ _ _ _ (by decide)]).trans hn
        have h70 : (up2 (up2 I1 120 s 0) 118 4 ((s : Int) + 1)) 111 7 = _ := (show (up2 (up2 I1 120 s 0) 118 4 ((s : Int) + 1)) 111 7 = I1 111 7 by rw [up2_row _ _ _ _ (by decide), up2_row _ _ _ _ (by decide)]).trans h70
        have hT : TB (up2 (up2 I1 120 s 0) 118 4 ((s : Int) + 1)) tx n := hT.cell (by rw [up2_row _ _ _ _ (by decide), up2_row _ _ _ _ (by decide)]) (by rw [up2_row _ _ _ _ (by decide), up2_row _ _ _ _ (by decide)])
        refine ev_n (fr' := (86, [some (vr 111), some (vr 118), some (vi 1), some (vl (wdF tx n (spF tx n q))), none, some (vi (s : Int)), some (vi 0)], [])) (S' := MS (up2 (up2 I1 120 s 0) 118 4 ((s : Int) + 1)) (up2 J 119 s (wdF tx n (spF tx n q))) cc ss) 5 rfl ?_
        have hX : pRP tx n d s a q = itP tx n s 5 0 (rwP tx n d s (spF tx n q)) (leF tx n (spF tx n q)) := by unfold pRP; rw [if_neg (by assumption), if_neg (by omega), if_neg (fun h => by omega)]
        rw [hX]
        have e11 : rowF d 11 (s + 461) (37 * s + 12) s (wdF tx n (spF tx n q)) 11 = (s : Int) + 1 := if_pos rfl
        refine (lp_rowP X _ _ cc ss _ s (wdF tx n (spF tx n q)) 0 5 rfl hT hn _ hp hkn dP ⟨by rw [e11]; omega, fun q hq => ?_, by rw [e11]; omega⟩ (by unfold rowF; rw [if_neg (by omega), if_neg (by omega), if_pos rfl]; rfl) (onlyI.refl _ _) rfl).mono ?_
        · rw [e11] at hq
          by_cases e : q = s
          · unfold rowF; rw [if_neg (by omega), if_neg (by omega), if_pos (by rw [e])]; omega
          · rw [rowF_out (by omega) (by omega) (by omega)]; exact h6 q (by omega)
        · rintro o T ⟨z, I', J', rfl, rfl, rfl, hc⟩
          exact ⟨_, _, _, rfl, rfl, hc.rw (by decide) hO h70 (fun _ _ h => h)⟩
      · show Ev X k_X4_readRow (49, [some (vr 111), some (vr 118), some (vi 1), some (vl (wdF tx n (spF tx n q))), none, none, none], []) (MS I1 J cc ss) _
        refine ev_n (fr' := (56, [some (vr 111), some (vr 118), some (vi 1), some (vl (wdF tx n (spF tx n q))), none, none, none], [vi (I1 111 4), vi (-3), vr 111])) (S' := MS I1 J cc ss) 4 rfl ?_
        refine ev_eqi (hq4) ?_
        show Ev X k_X4_readRow (56, [some (vr 111), some (vr 118), some (vi 1), some (vl (wdF tx n (spF tx n q))), none, none, none], [vi ((spF tx n q) : Int), vi (-3), vr 111]) (MS I1 J cc ss) _
        refine ev_cv rfl rfl rfl ⟨Nat.le_of_ble_eq_true rfl, Nat.le_of_ble_eq_true rfl⟩ (sp_fail X _ _ _ _ (-3) ((spF tx n q) : Int)) ?_
        show Ev X k_X4_readRow (59, [some (vr 111), some (vr 118), some (vi 1), some (vl (wdF tx n (spF tx n q))), none, none, none], [vi 0]) (MS (up2 (up2 I1 111 6 (-3)) 111 7 ((spF tx n q) : Int)) J cc ss) _
        refine ev_r rfl rfl rfl ?_
        have hX : pRP tx n d s a q = .inr (-3, (spF tx n q)) := by unfold pRP; rw [if_neg (by assumption), if_neg (by omega), if_pos (by assumption)]
        exact ⟨_, _, _, rfl, rfl, hO.e (by decide), by rw [hX]; exact ⟨rfl, ER.mk⟩⟩
    · show Ev X k_X4_readRow (29, [some (vr 111), some (vr 118), some (vi 1), some (vl (wdF tx n (spF tx n q))), none, none, none], []) (MS I1 J cc ss) _
      refine ev_n (fr' := (36, [some (vr 111), some (vr 118), some (vi 1), some (vl (wdF tx n (spF tx n q))), none, none, none], [vi (I1 111 4), vi (-2), vr 111])) (S' := MS I1 J cc ss) 4 rfl ?_
      refine ev_eqi (hq4) ?_
      show Ev X k_X4_readRow (36, [some (vr 111), some (vr 118), some (vi 1), some (vl (wdF tx n (spF tx n q))), none, none, none], [vi ((spF tx n q) : Int), vi (-2), vr 111]) (MS I1 J cc ss) _
      refine ev_cv rfl rfl rfl ⟨Nat.le_of_ble_eq_true rfl, Nat.le_of_ble_eq_true rfl⟩ (sp_fail X _ _ _ _ (-2) ((spF tx n q) : Int)) ?_
      show Ev X k_X4_readRow (39, [some (vr 111), some (vr 118), some (vi 1), some (vl (wdF tx n (spF tx n q))), none, none, none], [vi 0]) (MS (up2 (up2 I1 111 6 (-2)) 111 7 ((spF tx n q) : Int)) J cc ss) _
      refine ev_r rfl rfl rfl ?_
      have hX : pRP tx n d s a q = .inr (-2, (spF tx n q)) := by unfold pRP; rw [if_neg (by assumption), if_pos (by omega)]
      exact ⟨_, _, _, rfl, rfl, hO.e (by decide), by rw [hX]; exact ⟨rfl, ER.mk⟩⟩
  · show Ev X k_X4_readRow (7, [some (vr 111), some (vr 118), some (vi 1), none, none, none, none], []) (MS I J cc ss) _
    refine ev_n (fr' := (14, [some (vr 111), some (vr 118), some (vi 1), none, none, none, none], [vi (I 111 4), vi (-4), vr 111])) (S' := MS I J cc ss) 4 rfl ?_
    refine ev_eqi (hq4) ?_
    show Ev X k_X4_readRow (14, [some (vr 111), some (vr 118), some (vi 1), none, none, none, none], [vi (a : Int), vi (-4), vr 111]) (MS I J cc ss) _
    refine ev_cv rfl rfl rfl ⟨Nat.le_of_ble_eq_true rfl, Nat.le_of_ble_eq_true rfl⟩ (sp_fail X _ _ _ _ (-4) (a : Int)) ?_
    show Ev X k_X4_readRow (17, [some (vr 111), some (vr 118), some (vi 1), none, none, none, none], [vi 0]) (MS (up2 (up2 I 111 6 (-4)) 111 7 (a : Int)) J cc ss) _
    refine ev_r rfl rfl rfl ?_
    have hX : pRP tx n d s a q = .inr (-4, a) := by unfold pRP; rw [if_pos (by assumption)]
    exact ⟨_, _, _, rfl, rfl, (onlyRw.refl _ _ _).e (by decide), by rw [hX]; exact ⟨rfl, ER.mk⟩⟩
theorem sp_readRowI (X : AX) (I J : Nat → Nat → Int) (cc ss : Nat) (a s : Nat) {tx : F1} {n : Nat} (hT : TB I tx n) (hn : I 111 2 = (n : Int)) (q : Nat) (hp : I 111 3 = (q : Int)) (hkn : q ≤ n) (hq4 : I 111 4 = (a : Int)) {d : F1} (dP : PRep I J 118 d) (hwp : WP d) (dI : IRep I J 122 d) (hwi : WI d) (hs : d 308 = (s : Int)) : Ev X k_X4_readRow (0, [some (vr 111), some (vr 122), some (vi 0), none, none, none, none], []) (MS I J cc ss) (PZ cc ss (fun z I' J' => CRw (fun I J d => IRep I J 122 d) 122 I I' J J' n (pRI true tx n d s a q) z)) := by
  refine ev_n (fr' := (1, [some (vr 111), some (vr 122), some (vi 0), none, none, none, none], [vr 122])) (S' := MS I J cc ss) 1 rfl ?_
  refine ev_cv rfl rfl rfl ⟨Nat.le_of_ble_eq_true rfl, Nat.le_of_ble_eq_true rfl⟩ (sp_rIsFull_122 X _ _ _ _ dI) ?_
  show Ev X k_X4_readRow (4, [some (vr 111), some (vr 122), some (vi 0), none, none, none, none], [vi (if 8 ≤ d 308 then 1 else 0)]) (MS I J cc ss) _
  refine ev_beq _ rfl (by decide) (fun (g1 : ¬ (8 ≤ d 308)) => ?_) (fun (g1 : 8 ≤ d 308) => ?_)
  · show Ev X k_X4_readRow (18, [some (vr 111), some (vr 122), some (vi 0), none, none, none, none], []) (MS I J cc ss) _
    refine ev_n (fr' := (19, [some (vr 111), some (vr 122), some (vi 0), none, none, none, none], [vr 111])) (S' := MS I J cc ss) 1 rfl ?_
    refine ev_cp rfl rfl rfl ⟨Nat.le_of_ble_eq_true rfl, Nat.le_of_ble_eq_true rfl⟩ (sp_readWord X _ _ _ _ hT hn q hp hkn) (fun I1 J q2 => ?_)
    obtain ⟨rfl, rAI1, rBI1, hp, hq4⟩ := q2
    show Ev X k_X4_readRow (22, [some (vr 111), some (vr 122), some (vi 0), none, none, none, none], [vl (wdF tx n (spF tx n q))]) (MS I1 J cc ss) _
    have hn := (rBI1 2 (by decide) (by decide)).trans hn
    have hT := hT.cell (rAI1 112 (by decide)) (rAI1 113 (by decide))
    have hkn := leF_le (tx := tx) (n := n) (spF tx n q) (spF_le (tx := tx) (n := n) q hkn)
    have hT0 := rw_T rAI1 rBI1
    have hO : onlyRw 122 I I1 J J := hT0.rw (by decide)
    have h70 := rBI1 7 (by decide) (by decide)
    have dP := dP.t (by decide) hT0
    have dI := dI.t (by decide) hT0
    refine ev_n (fr' := (25, [some (vr 111), some (vr 122), some (vi 0), some (vl (wdF tx n (spF tx n q))), none, none, none], [vl 0, vl (wdF tx n (spF tx n q))])) (S' := MS I1 J cc ss) 3 rfl ?_
    refine ev_lc (c := .ne) (off := 14) rfl rfl (by decide) (fun (g2 : (wdF tx n (spF tx n q)) ≠ 0) => ?_) (fun (g2 : ¬ ((wdF tx n (spF tx n q)) ≠ 0)) => ?_)
    · show Ev X k_X4_readRow (40, [some (vr 111), some (vr 122), some (vi 0), some (vl (wdF tx n (spF tx n q))), none, none, none], []) (MS I1 J cc ss) _
      refine ev_n (fr' := (42, [some (vr 111), some (vr 122), some (vi 0), some (vl (wdF tx n (spF tx n q))), none, none, none], [vl (wdF tx n (spF tx n q)), vr 122])) (S' := MS I1 J cc ss) 2 rfl ?_
      refine ev_cv rfl rfl rfl ⟨Nat.le_of_ble_eq_true rfl, Nat.le_of_ble_eq_true rfl⟩ (sp_find_122 X _ _ _ _ (wdF tx n (spF tx n q)) dI hwi) ?_
      show Ev X k_X4_readRow (45, [some (vr 111), some (vr 122), some (vi 0), some (vl (wdF tx n (spF tx n q))), none, none, none], [vi (pnmF tx n d 469 308 (spF tx n q))]) (MS I1 J cc ss) _
      refine ev_n (fr' := (46, [some (vr 111), some (vr 122), some (vi 0), some (vl (wdF tx n (spF tx n q))), none, none, none], [vi (-1), vi (pnmF tx n d 469 308 (spF tx n q))])) (S' := MS I1 J cc ss) 1 rfl ?_
      refine ev_ic (c := .eq) (off := 14) rfl (by decide) (fun (g3 : (pnmF tx n d 469 308 (spF tx n q)) = -1) => ?_) (fun (g3 : ¬ ((pnmF tx n d 469 308 (spF tx n q)) = -1)) => ?_)
      · show Ev X k_X4_readRow (60, [some (vr 111), some (vr 122), some (vi 0), some (vl (wdF tx n (spF tx n q))), none, none, none], []) (MS I1 J cc ss) _
        refine ev_n (fr' := (62, [some (vr 111), some (vr 122), some (vi 0), some (vl (wdF tx n (spF tx n q))), none, none, none], [vl (wdF tx n (spF tx n q)), vr 122])) (S' := MS I1 J cc ss) 2 rfl ?_
        refine ev_cv rfl rfl rfl ⟨Nat.le_of_ble_eq_true rfl, Nat.le_of_ble_eq_true rfl⟩ (sp_addRow_122 X _ _ _ _ s (wdF tx n (spF tx n q)) dI hs (by omega)) ?_
        show Ev X k_X4_readRow (65, [some (vr 111), some (vr 122), some (vi 0), some (vl (wdF tx n (spF tx n q))), none, none, none], [vi (s : Int)]) (MS (up2 (up2 I1 124 s 0) 122 4 ((s : Int) + 1)) (up2 J 123 s (wdF tx n (spF tx n q))) cc ss) _
        have h6 : ∀ q : Nat, (q : Int) < d 308 → d (19 * q + 309) ≤ 6 := fun q hq => (hwi.2.2 q hq).2.1
        have hs8 : s < 8 := by omega
        have dI := IRep.row (x := wdF tx n (spF tx n q)) dI hs hs8 h6
        have hO : onlyRw 122 I (up2 (up2 I1 124 s 0) 122 4 ((s : Int) + 1)) J (up2 J 123 s (wdF tx n (spF tx n q))) := hO.trans (onlyRw.row (by decide))
        have hp : (up2 (up2 I1 124 s 0) 122 4 ((s : Int) + 1)) 111 3 = _ := (show (up2 (up2 I1 124 s 0) 122 4 ((s : Int) + 1)) 111 3 = I1 111 3 by rw [up2_row _ _ _ _ (by decide), up2_row _ _ _ _ (by decide)]).trans hp
        have hn : (up2 (up2 I1 124 s 0) 122 4 ((s : Int) + 1)) 111 2 = _ := (show (up2 (up2 I1 124 s 0) 122 4 ((s : Int) + 1)) 111 2 = I1 111 2 by rw [up2_row _ _ _ _ (by decide), up2_row _ _ _ _ (by decide)]).trans hn
        have h70 : (up2 (up2 I1 124 s 0) 122 4 ((s : Int) + 1)) 111 7 = _ := (show (up2 (up2 I1 124 s 0) 122 4 ((s : Int) + 1)) 111 7 = I1 111 7 by rw [up2_row _ _ _ _ (by decide), up2_row _ _ _ _ (by decide)]).trans h70
        have hT : TB (up2 (up2 I1 124 s 0) 122 4 ((s : Int) + 1)) tx n := hT.cell (by rw [up2_row _ _ _ _ (by decide), up2_row _ _ _ _ (by decide)]) (by rw [up2_row _ _ _ _ (by decide), up2_row _ _ _ _ (by decide)])
        have hO2 : onlyRw 122 I1 (up2 (up2 I1 124 s 0) 122 4 ((s : Int) + 1)) J (up2 J 123 s (wdF tx n (spF tx n q))) := onlyRw.row (by decide)
        refine ev_n (fr' := (72, [some (vr 111), some (vr 122), some (vi 0), some (vl (wdF tx n (spF tx n q))), none, some (vi (s : Int)), none], [vr 111])) (S' := MS (up2 (up2 I1 124 s 0) 122 4 ((s : Int) + 1)) (up2 J 123 s (wdF tx n (spF tx n q))) cc ss) 4 rfl ?_
        refine ev_cp rfl rfl rfl ⟨Nat.le_of_ble_eq_true rfl, Nat.le_of_ble_eq_true rfl⟩ (sp_peek X _ _ _ _ hT hn ((leF tx n (spF tx n q))) hp hkn) (fun I3 J9 q4 => ?_)
        obtain ⟨rfl, rAI3, rBI3, hp⟩ := q4
        show Ev X k_X4_readRow (75, [some (vr 111), some (vr 122), some (vi 0), some (vl (wdF tx n (spF tx n q))), none, some (vi (s : Int)), none], [vi (atF tx n (spF tx n ((leF tx n (spF tx n q)))))]) (MS I3 (up2 J 123 s (wdF tx n (spF tx n q))) cc ss) _
        have hn := (rBI3 2 (by decide)).trans hn
        have hT := hT.cell (rAI3 112 (by decide)) (rAI3 113 (by decide))
        have hkn := spF_le (tx := tx) (n := n) ((leF tx n (spF tx n q))) hkn
        have hT1 := pk_T rAI3 rBI3
        have hO := hO.trans (hT1.rw (J := _) (by decide))
        have dI := dI.t (by decide) hT1
        have h70 := (rBI3 7 (by decide)).trans h70
        have hO2 := hO2.trans (hT1.rw (J := _) (by decide))
        refine ev_cv rfl rfl rfl ⟨Nat.le_of_ble_eq_true rfl, Nat.le_of_ble_eq_true rfl⟩ (sp_c_isLetter X _ (atF tx n (spF tx n ((leF tx n (spF tx n q))))) ) ?_
        show Ev X k_X4_readRow (78, [some (vr 111), some (vr 122), some (vi 0), some (vl (wdF tx n (spF tx n q))), none, some (vi (s : Int)), none], [vi (if 97 ≤ (atF tx n (spF tx n ((leF tx n (spF tx n q))))) ∧ (atF tx n (spF tx n ((leF tx n (spF tx n q))))) ≤ 122 then 1 else 0)]) (MS I3 (up2 J 123 s (wdF tx n (spF tx n q))) cc ss) _
        refine ev_bne _ rfl (by decide) (fun (g4 : 97 ≤ (atF tx n (spF tx n ((leF tx n (spF tx n q))))) ∧ (atF tx n (spF tx n ((leF tx n (spF tx n q))))) ≤ 122) => ?_) (fun (g4 : ¬ (97 ≤ (atF tx n (spF tx n ((leF tx n (spF tx n q))))) ∧ (atF tx n (spF tx n ((leF tx n (spF tx n q))))) ≤ 122)) => ?_)
        · show Ev X k_X4_readRow (83, [some (vr 111), some (vr 122), some (vi 0), some (vl (wdF tx n (spF tx n q))), none, some (vi (s : Int)), none], []) (MS I3 (up2 J 123 s (wdF tx n (spF tx n q))) cc ss) _
          refine ev_n (fr' := (86, [some (vr 111), some (vr 122), some (vi 0), some (vl (wdF tx n (spF tx n q))), none, some (vi (s : Int)), some (vi 0)], [])) (S' := MS I3 (up2 J 123 s (wdF tx n (spF tx n q))) cc ss) 2 rfl ?_
          have hX : pRI true tx n d s a q = itI true d tx n s 5 0 (rwI tx n d s (spF tx n q)) (spF tx n (leF tx n (spF tx n q))) := by unfold pRI; rw [if_neg (by assumption), if_neg (by omega), if_neg (fun h => by omega), if_pos (kd_at.mpr (by assumption))]
          rw [hX]
          have e11 : rowF d 308 (s + 469) (19 * s + 309) s (wdF tx n (spF tx n q)) 308 = (s : Int) + 1 := if_pos rfl
          have hd8 := hwp.2.1
          have dP : PRep _ _ 118 (rwI tx n d s (spF tx n q)) := PRep.eqv dP hwp (fun k hk => rowF_out (by omega) (by omega) (by omega)) (fun a h1 h2 => ⟨hO2.1 a (by omega) (by omega) (by omega) (by omega), hO2.2.2.1 a (by omega)⟩)
          refine (lp_rowI X _ _ cc ss _ s (wdF tx n (spF tx n q)) 0 5 rfl hT hn _ hp hkn (e := rowF d 308 (s + 469) (19 * s + 309) s (wdF tx n (spF tx n q))) (D := d) (fun k hk => rowF_out (by omega) (by omega) (by omega)) dI dP (hwp.eqv (fun k h1 h2 => rowF_out (by omega) (by omega) (by omega))) ⟨by rw [e11]; omega, fun q hq => ?_, by rw [e11]; omega⟩ (by unfold rowF; rw [if_neg (by omega), if_neg (by omega), if_pos rfl]; rfl) (onlyI.refl _ _) rfl).mono ?_
          · rw [e11] at hq
            by_cases e : q = s
            · unfold rowF; rw [if_neg (by omega), if_neg (by omega), if_pos (by rw [e])]; omega
            · rw [rowF_out (by omega) (by omega) (by omega)]; exact h6 q (by omega)
          · rintro o T ⟨z, I', J', rfl, rfl, rfl, hc⟩
            exact ⟨_, _, _, rfl, rfl, hc.rw (by decide) hO h70 (fun _ _ h => h)⟩
        · show Ev X k_X4_readRow (81, [some (vr 111), some (vr 122), some (vi 0), some (vl (wdF tx n (spF tx n q))), none, some (vi (s : Int)), none], []) (MS I3 (up2 J 123 s (wdF tx n (spF tx n q))) cc ss) _
          refine ev_n (fr' := (82, [some (vr 111), some (vr 122), some (vi 0), some (vl (wdF tx n (spF tx n q))), none, some (vi (s : Int)), none], [vi 1])) (S' := MS I3 (up2 J 123 s (wdF tx n (spF tx n q))) cc ss) 1 rfl ?_
          refine ev_r rfl rfl rfl ?_
          have hX : pRI true tx n d s a q = .inl (spF tx n (leF tx n (spF tx n q)), rwI tx n d s (spF tx n q)) := by unfold pRI; rw [if_neg (by assumption), if_neg (by omega), if_neg (fun h => by omega), if_neg (fun h => g4 (kd_at.mp h))]
          exact ⟨_, _, _, rfl, rfl, hO, by rw [hX]; exact ⟨rfl, hp, hkn, h70, dI⟩⟩
      · show Ev X k_X4_readRow (49, [some (vr 111), some (vr 122), some (vi 0), some (vl (wdF tx n (spF tx n q))), none, none, none], []) (MS I1 J cc ss) _
        refine ev_n (fr' := (56, [some (vr 111), some (vr 122), some (vi 0), some (vl (wdF tx n (spF tx n q))), none, none, none], [vi (I1 111 4), vi (-3), vr 111])) (S' := MS I1 J cc ss) 4 rfl ?_
        refine ev_eqi (hq4) ?_
        show Ev X k_X4_readRow (56, [some (vr 111), some (vr 122), some (vi 0), some (vl (wdF tx n (spF tx n q))), none, none, none], [vi ((spF tx n q) : Int), vi (-3), vr 111]) (MS I1 J cc ss) _
        refine ev_cv rfl rfl rfl ⟨Nat.le_of_ble_eq_true rfl, Nat.le_of_ble_eq_true rfl⟩ (sp_fail X _ _ _ _ (-3) ((spF tx n q) : Int)) ?_
        show Ev X k_X4_readRow (59, [some (vr 111), some (vr 122), some (vi 0), some (vl (wdF tx n (spF tx n q))), none, none, none], [vi 0]) (MS (up2 (up2 I1 111 6 (-3)) 111 7 ((spF tx n q) : Int)) J cc ss) _
        refine ev_r rfl rfl rfl ?_
        have hX : pRI true tx n d s a q = .inr (-3, (spF tx n q)) := by unfold pRI; rw [if_neg (by assumption), if_neg (by omega), if_pos (by assumption)]
        exact ⟨_, _, _, rfl, rfl, hO.e (by decide), by rw [hX]; exact ⟨rfl, ER.mk⟩⟩
    · show Ev X k_X4_readRow (29, [some (vr 111), some (vr 122), some (vi 0), some (vl (wdF tx n (spF tx n q))), none, none, none], []) (MS I1 J cc ss) _
      refine ev_n (fr' := (36, [some (vr 111), some (vr 122), some (vi 0), some (vl (wdF tx n (spF tx n q))), none, none, none], [vi (I1 111 4), vi (-2), vr 111])) (S' := MS I1 J cc ss) 4 rfl ?_
      refine ev_eqi (hq4) ?_
      show Ev X k_X4_readRow (36, [some (vr 111), some (vr 122), some (vi 0), some (vl (wdF tx n (spF tx n q))), none, none, none], [vi ((spF tx n q) : Int), vi (-2), vr 111]) (MS I1 J cc ss) _
      refine ev_cv rfl rfl rfl ⟨Nat.le_of_ble_eq_true rfl, Nat.le_of_ble_eq_true rfl⟩ (sp_fail X _ _ _ _ (-2) ((spF tx n q) : Int)) ?_
      show Ev X k_X4_readRow (39, [some (vr 111), some (vr 122), some (vi 0), some (vl (wdF tx n (spF tx n q))), none, none, none], [vi 0]) (MS (up2 (up2 I1 111 6 (-2)) 111 7 ((spF tx n q) : Int)) J cc ss) _
      refine ev_r rfl rfl rfl ?_
      have hX : pRI true tx n d s a q = .inr (-2, (spF tx n q)) := by unfold pRI; rw [if_neg (by assumption), if_pos (by omega)]
      exact ⟨_, _, _, rfl, rfl, hO.e (by decide), by rw [hX]; exact ⟨rfl, ER.mk⟩⟩
  · show Ev X k_X4_readRow (7, [some (vr 111), some (vr 122), some (vi 0), none, none, none, none], []) (MS I J cc ss) _
    refine ev_n (fr' := (14, [some (vr 111), some (vr 122), some (vi 0), none, none, none, none], [vi (I 111 4), vi (-4), vr 111])) (S' := MS I J cc ss) 4 rfl ?_
    refine ev_eqi (hq4) ?_
    show Ev X k_X4_readRow (14, [some (vr 111), some (vr 122), some (vi 0), none, none, none, none], [vi (a : Int), vi (-4), vr 111]) (MS I J cc ss) _
    refine ev_cv rfl rfl rfl ⟨Nat.le_of_ble_eq_true rfl, Nat.le_of_ble_eq_true rfl⟩ (sp_fail X _ _ _ _ (-4) (a : Int)) ?_
    show Ev X k_X4_readRow (17, [some (vr 111), some (vr 122), some (vi 0), none, none, none, none], [vi 0]) (MS (up2 (up2 I 111 6 (-4)) 111 7 (a : Int)) J cc ss) _
    refine ev_r rfl rfl rfl ?_
    have hX : pRI true tx n d s a q = .inr (-4, a) := by unfold pRI; rw [if_pos (by assumption)]
    exact ⟨_, _, _, rfl, rfl, (onlyRw.refl _ _ _).e (by decide), by rw [hX]; exact ⟨rfl, ER.mk⟩⟩
