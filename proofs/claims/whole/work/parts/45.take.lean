/-! A GROUP IS TAKEN (printed by gen/g45.py) -/
theorem cntB_le {G G' : B2} (h : ∀ y x, G y x = true → G' y x = true) : cntB G ≤ cntB G' := by
  unfold cntB
  refine sumF_le 32 (fun y _ => sumF_le 32 (fun x _ => ?_))
  by_cases q : G y x = true
  · rw [if_pos q, if_pos (h y x q)]; exact Int.le_refl _
  · rw [if_neg q]; split <;> omega
theorem or01 {a b : Int} (ha : a = 0 ∨ a = 1) (hb : b = 0 ∨ b = 1) : opI (· ||| ·) a b = if a = 1 ∨ b = 1 then 1 else 0 := by
  rcases ha with rfl | rfl <;> rcases hb with rfl | rfl <;> decide
theorem TR.cell {I I' : F2} {a : Nat} {G : B2} (h : I' a = I a) (hG : TR I a G) : TR I' a G := by unfold TR; rw [h]; exact hG
theorem TR.congr {I : F2} {a : Nat} {G G' : B2} (hG : TR I a G) (h : ∀ y x, G y x = G' y x) : TR I a G' := ⟨fun r hr => ⟨(hG.1 r hr).1, fun c hc => ((hG.1 r hr).2 c hc).trans (h r c)⟩, fun y x q => hG.2 y x (by rw [h]; exact q)⟩
def GS (O : B2) (dg : Bool) (sy sx : Nat) (G : B2) : Prop := G sy sx = true ∧ (∀ y x, G y x = true → O y x = true) ∧ ∀ y x, G y x = true → Rch O dg sy sx y x
def closedR (O : B2) (dg : Bool) (G : B2) (r : Nat) : Prop := ∀ y x x', G y x = true → nbr dg y x r x' → O r x' = true → G r x' = true
def SW (O : B2) (dg : Bool) (G0 G : B2) (gr : Int) (k : Nat) : Prop := (∀ y x, G0 y x = true → G y x = true) ∧ ((gr = 0 ∧ (∀ y x, G y x = G0 y x) ∧ ∀ r, r < k → closedR O dg G r) ∨ (gr = 1 ∧ cntB G0 + 1 ≤ cntB G))
theorem GS.next {O G G' : B2} {dg : Bool} {sy sx k : Nat} {z : Int} (h : GS O dg sy sx G) (g : GrowP O dg k G G' z) : GS O dg sy sx G' := ⟨g.1 _ _ h.1, g.2.1, g.2.2.1 sy sx h.2.2⟩
theorem SW.rng {O G0 G : B2} {dg : Bool} {gr : Int} {k : Nat} (h : SW O dg G0 G gr k) : gr = 0 ∨ gr = 1 := by
  rcases h.2 with q | q
  · exact Or.inl q.1
  · exact Or.inr q.1
theorem GrowP.rng {O G G' : B2} {dg : Bool} {z : Int} {k : Nat} (g : GrowP O dg k G G' z) : z = 0 ∨ z = 1 := by rcases g.2.2.2 with q | q; exact Or.inl q.1; exact Or.inr q.1
theorem SW.next {O G0 G G' : B2} {dg : Bool} {gr z : Int} {k k' : Nat} (h : SW O dg G0 G gr k) (g : GrowP O dg k' G G' z) (hk' : k' < 32) {w : Int} (hw : w = if gr = 1 ∨ z = 1 then 1 else 0) : SW O dg G0 G' w k ∧ (k' = k → SW O dg G0 G' w (k + 1)) := by
  rw [hw]
  have hs : ∀ y x, G0 y x = true → G' y x = true := fun y x q => g.1 y x (h.1 y x q)
  rcases h.2 with ⟨h1, h2, h3⟩ | ⟨h1, h2⟩
  · rcases g.2.2.2 with ⟨g1, g2, g3⟩ | ⟨g1, x, hx, g2, g3⟩
    · rw [if_neg (by omega)]
      have e : ∀ r, closedR O dg G r → closedR O dg G' r := fun r q y x x' q1 q2 q3 => by
        rw [g2] at q1 ⊢; exact q y x x' q1 q2 q3
      refine ⟨⟨hs, Or.inl ⟨rfl, fun y x => (g2 y x).trans (h2 y x), fun r hr => e r (h3 r hr)⟩⟩, fun hk => ⟨hs, Or.inl ⟨rfl, fun y x => (g2 y x).trans (h2 y x), fun r hr => e r ?_⟩⟩⟩
      rcases Nat.lt_succ_iff_lt_or_eq.mp hr with q | q
      · exact h3 r q
      · subst q; subst hk; exact g3
    · rw [if_pos (Or.inr g1)]
      have c : cntB G0 + 1 ≤ cntB G' := cntB_lt (fun y x _ _ q => hs y x q) hk' hx (by rw [← h2]; exact g2) g3
      exact ⟨⟨hs, Or.inr ⟨rfl, c⟩⟩, fun _ => ⟨hs, Or.inr ⟨rfl, c⟩⟩⟩
  · rw [if_pos (Or.inl h1)]
    have c : cntB G0 + 1 ≤ cntB G' := Int.le_trans h2 (cntB_le g.1)
    exact ⟨⟨hs, Or.inr ⟨rfl, c⟩⟩, fun _ => ⟨hs, Or.inr ⟨rfl, c⟩⟩⟩
theorem GS.grp {O G : B2} {dg : Bool} {sy sx n : Nat} (h : GS O dg sy sx G) (hn : ∀ y x, O y x = true → y < n) (hc : ∀ r, r < n → closedR O dg G r) : isGrp O dg sy sx G :=
  ⟨h.1, h.2.2, fun y x y' x' h1 h2 h3 => hc y' (hn _ _ h3) y x x' h1 h2 h3⟩
def only33 (I I' : F2) : Prop := ∀ a, a ≠ 133 → a ≠ 134 → I' a = I a
theorem only134.trans {I I' I2 : F2} (h : only134 I I') (h2 : only134 I' I2) : only134 I I2 := fun a h3 => (h2 a h3).trans (h a h3)
/-- what is free without the group -/
theorem TR.andnot {I : F2} {O G : B2} {k : Nat} {z : Int} (hO : TR I 133 (fun y x => O y x && !(decide (y < k) && G y x))) (hG : TR I 134 G) (hk : k < 32) (hz : z = opI (· &&& ·) (I 133 k) (opI (· ^^^ ·) (I 134 k) (-1))) : TR (up2 I 133 k z) 133 (fun y x => O y x && !(decide (y < k + 1) && G y x)) := by
  refine ⟨fun q hq => ?_, fun y x h => ?_⟩
  · by_cases e : q = k
    · subst e
      rw [up2_same, hz]
      refine ⟨opI_rng _ _ _, fun c hc => ?_⟩
      rw [bt_and, bt_xor, bt_neg1, (hO.1 q hq).2 c hc, (hG.1 q hq).2 c hc, decide_eq_true hc]
      show ((O q c && !(decide (q < q) && G q c)) && (G q c ^^ true)) = (O q c && !(decide (q < q + 1) && G q c))
      rw [decide_eq_false (Nat.lt_irrefl q), decide_eq_true (Nat.lt_succ_self q)]
      simp
    · rw [up2_ne2 _ _ _ _ e]
      refine ⟨(hO.1 q hq).1, fun c hc => ?_⟩
      rw [(hO.1 q hq).2 c hc]
      show (O q c && !(decide (q < k) && G q c)) = (O q c && !(decide (q < k + 1) && G q c))
      rw [show decide (q < k) = decide (q < k + 1) from by rw [decide_eq_decide]; omega]
  · rw [Bool.and_eq_true] at h
    by_cases e : y = k
    · subst e
      refine ⟨hk, ?_⟩
      exact (hO.2 y x (by
        show (O y x && !(decide (y < y) && G y x)) = true
        rw [h.1, decide_eq_false (Nat.lt_irrefl y)]; rfl)).2
    · refine hO.2 y x ?_
      show (O y x && !(decide (y < k) && G y x)) = true
      rw [h.1, Bool.true_and]
      have := h.2
      rw [show decide (y < k) = decide (y < k + 1) from by rw [decide_eq_decide]; omega]; exact this
theorem sp_growRowZ_1 (X : AX) (I J : Nat → Nat → Int) (cc ss : Nat) {O G : B2} (k : Nat) (z9 : Int) (hz : z9 = (k : Int)) (hO : TR I 133 O) (hG : TR I 134 G) (hGO : ∀ y x, G y x = true → O y x = true) (hk : k < 32) : Ev X k_X7_growRow (0, [some (vr 132), some (vi z9), some (vi 1), none, none, none, none], []) (MS I J cc ss) (PZ cc ss (fun z I' J' => J' = J ∧ only134 I I' ∧ ∃ G', TR I' 134 G' ∧ GrowP O true k G G' z)) := by
  subst hz; exact sp_growRow_1 X I J cc ss k hO hG hGO hk
theorem li_down1 (X : AX) (I J : Nat → Nat → Int) (cc ss : Nat) {Q : (Option AV ⊕ Nat) → AS → Prop} {O : B2} {n : Nat} (sr sc : Nat) (I0 : F2) (hn : I 132 2 = (n : Int)) (hn32 : n ≤ 32) (hO : TR I 133 O) (hF : only134 I0 I) {G : B2} (hG : TR I 134 G) (hS : GS O true sr sc G) (G0 : B2) (sw d : Nat) (gr : Int) (hd : d ≤ n) (hW : SW O true G0 G gr n) (K : ∀ (I' : F2) (G : B2) (gr : Int) (v : Option AV), I' 132 2 = (n : Int) → TR I' 133 O → only134 I0 I' → TR I' 134 G → GS O true sr sc G → SW O true G0 G gr n → Ev X k_X7_takeGroup (139, [some (vr 132), some (vi (sr : Int)), some (vi (sc : Int)), some (vi 1), some (vi gr), some (vi (sw : Int)), v], []) (MS I' J cc ss) Q) : Ev X k_X7_takeGroup (106, [some (vr 132), some (vi (sr : Int)), some (vi (sc : Int)), some (vi 1), some (vi gr), some (vi (sw : Int)), some (vi ((d : Int) - 1))], []) (MS I J cc ss) (Q) := by
  refine ev_n (fr' := (108, [some (vr 132), some (vi (sr : Int)), some (vi (sc : Int)), some (vi 1), some (vi gr), some (vi (sw : Int)), some (vi ((d : Int) - 1))], [vi ((d : Int) - 1)])) (S' := MS I J cc ss) 1 rfl ?_
  refine ev_if (c := .lt) (off := 31) rfl (by decide) (fun (g1 : (d : Int) - 1 < 0) => ?_) (fun (g1 : ¬ ((d : Int) - 1 < 0)) => ?_)
  · show Ev X k_X7_takeGroup (139, [some (vr 132), some (vi (sr : Int)), some (vi (sc : Int)), some (vi 1), some (vi gr), some (vi (sw : Int)), some (vi ((d : Int) - 1))], []) (MS I J cc ss) _
    exact K I _ _ _ hn hO hF hG hS hW
  · show Ev X k_X7_takeGroup (111, [some (vr 132), some (vi (sr : Int)), some (vi (sc : Int)), some (vi 1), some (vi gr), some (vi (sw : Int)), some (vi ((d : Int) - 1))], []) (MS I J cc ss) _
    refine ev_n (fr' := (115, [some (vr 132), some (vi (sr : Int)), some (vi (sc : Int)), some (vi 1), some (vi gr), some (vi (sw : Int)), some (vi ((d : Int) - 1))], [vi 1, vi ((d : Int) - 1), vr 132])) (S' := MS I J cc ss) 3 rfl ?_
    refine ev_cz rfl rfl rfl ⟨Nat.le_of_ble_eq_true rfl, Nat.le_of_ble_eq_true rfl⟩ (sp_growRowZ_1 X _ _ _ _ (d - 1) ((d : Int) - 1) (by omega) hO hG hS.2.1 (by omega)) (fun z I1 J q2 => ?_)
    obtain ⟨rfl, rI1, G', hG', hgp⟩ := q2
    show Ev X k_X7_takeGroup (118, [some (vr 132), some (vi (sr : Int)), some (vi (sc : Int)), some (vi 1), some (vi gr), some (vi (sw : Int)), some (vi ((d : Int) - 1))], [vi z]) (MS I1 J cc ss) _
    have hn := (congrFun (rI1 132 (by decide)) 2).trans hn
    have hO := TR.cell (rI1 133 (by decide)) hO
    have hF := hF.trans rI1
    refine ev_if (c := .ne) (off := 8) rfl (by decide) (fun (g2 : z ≠ 0) => ?_) (fun (g2 : ¬ (z ≠ 0)) => ?_)
    · show Ev X k_X7_takeGroup (126, [some (vr 132), some (vi (sr : Int)), some (vi (sc : Int)), some (vi 1), some (vi gr), some (vi (sw : Int)), some (vi ((d : Int) - 1))], []) (MS I1 J cc ss) _
      refine ev_n (fr' := (133, [some (vr 132), some (vi (sr : Int)), some (vi (sc : Int)), some (vi 1), some (vi 1), some (vi (sw : Int)), some (vi ((d : Int) - 1))], [])) (S' := MS I1 J cc ss) 3 rfl ?_
      refine ev_inc (z := (d : Int) - 2) rfl rfl (by omega) (by omega) (by omega) rfl ?_
      show Ev X k_X7_takeGroup (136, [some (vr 132), some (vi (sr : Int)), some (vi (sc : Int)), some (vi 1), some (vi 1), some (vi (sw : Int)), some (vi ((d : Int) - 2))], []) (MS I1 J cc ss) _
      refine ev_n (fr' := (106, [some (vr 132), some (vi (sr : Int)), some (vi (sc : Int)), some (vi 1), some (vi 1), some (vi (sw : Int)), some (vi ((d : Int) - 2))], [])) (S' := MS I1 J cc ss) 1 rfl ?_
      have h8 := hW.rng
      have h9 := hgp.rng
      rw [show (d : Int) - 2 = ((d - 1 : Nat) : Int) - 1 by omega]
      exact li_down1 X _ _ cc ss sr sc I0 hn hn32 hO hF hG' (hS.next hgp) G0 sw (d - 1) _ (by omega) (hW.next hgp (by omega) (by split <;> omega)).1 K
    · show Ev X k_X7_takeGroup (121, [some (vr 132), some (vi (sr : Int)), some (vi (sc : Int)), some (vi 1), some (vi gr), some (vi (sw : Int)), some (vi ((d : Int) - 1))], []) (MS I1 J cc ss) _
      refine ev_n (fr' := (123, [some (vr 132), some (vi (sr : Int)), some (vi (sc : Int)), some (vi 1), some (vi gr), some (vi (sw : Int)), some (vi ((d : Int) - 1))], [vi gr])) (S' := MS I1 J cc ss) 1 rfl ?_
      refine ev_if (c := .eq) (off := 7) rfl (by decide) (fun (g3 : gr = 0) => ?_) (fun (g3 : ¬ (gr = 0)) => ?_)
      · show Ev X k_X7_takeGroup (130, [some (vr 132), some (vi (sr : Int)), some (vi (sc : Int)), some (vi 1), some (vi gr), some (vi (sw : Int)), some (vi ((d : Int) - 1))], []) (MS I1 J cc ss) _
        refine ev_n (fr' := (133, [some (vr 132), some (vi (sr : Int)), some (vi (sc : Int)), some (vi 1), some (vi 0), some (vi (sw : Int)), some (vi ((d : Int) - 1))], [])) (S' := MS I1 J cc ss) 2 rfl ?_
        refine ev_inc (z := (d : Int) - 2) rfl rfl (by omega) (by omega) (by omega) rfl ?_
        show Ev X k_X7_takeGroup (136, [some (vr 132), some (vi (sr : Int)), some (vi (sc : Int)), some (vi 1), some (vi 0), some (vi (sw : Int)), some (vi ((d : Int) - 2))], []) (MS I1 J cc ss) _
        refine ev_n (fr' := (106, [some (vr 132), some (vi (sr : Int)), some (vi (sc : Int)), some (vi 1), some (vi 0), some (vi (sw : Int)), some (vi ((d : Int) - 2))], [])) (S' := MS I1 J cc ss) 1 rfl ?_
        have h8 := hW.rng
        have h9 := hgp.rng
        rw [show (d : Int) - 2 = ((d - 1 : Nat) : Int) - 1 by omega]
        exact li_down1 X _ _ cc ss sr sc I0 hn hn32 hO hF hG' (hS.next hgp) G0 sw (d - 1) _ (by omega) (hW.next hgp (by omega) (by split <;> omega)).1 K
      · show Ev X k_X7_takeGroup (126, [some (vr 132), some (vi (sr : Int)), some (vi (sc : Int)), some (vi 1), some (vi gr), some (vi (sw : Int)), some (vi ((d : Int) - 1))], []) (MS I1 J cc ss) _
        refine ev_n (fr' := (133, [some (vr 132), some (vi (sr : Int)), some (vi (sc : Int)), some (vi 1), some (vi 1), some (vi (sw : Int)), some (vi ((d : Int) - 1))], [])) (S' := MS I1 J cc ss) 3 rfl ?_
        refine ev_inc (z := (d : Int) - 2) rfl rfl (by omega) (by omega) (by omega) rfl ?_
        show Ev X k_X7_takeGroup (136, [some (vr 132), some (vi (sr : Int)), some (vi (sc : Int)), some (vi 1), some (vi 1), some (vi (sw : Int)), some (vi ((d : Int) - 2))], []) (MS I1 J cc ss) _
        refine ev_n (fr' := (106, [some (vr 132), some (vi (sr : Int)), some (vi (sc : Int)), some (vi 1), some (vi 1), some (vi (sw : Int)), some (vi ((d : Int) - 2))], [])) (S' := MS I1 J cc ss) 1 rfl ?_
        have h8 := hW.rng
        have h9 := hgp.rng
        rw [show (d : Int) - 2 = ((d - 1 : Nat) : Int) - 1 by omega]
        exact li_down1 X _ _ cc ss sr sc I0 hn hn32 hO hF hG' (hS.next hgp) G0 sw (d - 1) _ (by omega) (hW.next hgp (by omega) (by split <;> omega)).1 K
termination_by d
decreasing_by all_goals omega
theorem li_up1 (X : AX) (I J : Nat → Nat → Int) (cc ss : Nat) {Q : (Option AV ⊕ Nat) → AS → Prop} {O : B2} {n : Nat} (sr sc : Nat) (I0 : F2) (hn : I 132 2 = (n : Int)) (hn32 : n ≤ 32) (hO : TR I 133 O) (hF : only134 I0 I) {G : B2} (hG : TR I 134 G) (hS : GS O true sr sc G) (G0 : B2) (sw u : Nat) (gr : Int) (hu : u ≤ n) (hW : SW O true G0 G gr u) (K : ∀ (I' : F2) (G : B2) (gr : Int) (v : Option AV), I' 132 2 = (n : Int) → TR I' 133 O → only134 I0 I' → TR I' 134 G → GS O true sr sc G → SW O true G0 G gr n → Ev X k_X7_takeGroup (139, [some (vr 132), some (vi (sr : Int)), some (vi (sc : Int)), some (vi 1), some (vi gr), some (vi (sw : Int)), v], []) (MS I' J cc ss) Q) : Ev X k_X7_takeGroup (61, [some (vr 132), some (vi (sr : Int)), some (vi (sc : Int)), some (vi 1), some (vi gr), some (vi (sw : Int)), some (vi (u : Int))], []) (MS I J cc ss) (Q) := by
  refine ev_n (fr' := (67, [some (vr 132), some (vi (sr : Int)), some (vi (sc : Int)), some (vi 1), some (vi gr), some (vi (sw : Int)), some (vi (u : Int))], [vi (I 132 2), vi (u : Int)])) (S' := MS I J cc ss) 3 rfl ?_
  refine ev_eqi (hn) ?_
  show Ev X k_X7_takeGroup (67, [some (vr 132), some (vi (sr : Int)), some (vi (sc : Int)), some (vi 1), some (vi gr), some (vi (sw : Int)), some (vi (u : Int))], [vi (n : Int), vi (u : Int)]) (MS I J cc ss) _
  refine ev_ic (c := .ge) (off := 31) rfl (by decide) (fun (g1 : (n : Int) ≤ (u : Int)) => ?_) (fun (g1 : ¬ ((n : Int) ≤ (u : Int))) => ?_)
  · show Ev X k_X7_takeGroup (98, [some (vr 132), some (vi (sr : Int)), some (vi (sc : Int)), some (vi 1), some (vi gr), some (vi (sw : Int)), some (vi (u : Int))], []) (MS I J cc ss) _
    refine ev_n (fr' := (102, [some (vr 132), some (vi (sr : Int)), some (vi (sc : Int)), some (vi 1), some (vi gr), some (vi (sw : Int)), some (vi (u : Int))], [vi (I 132 2)])) (S' := MS I J cc ss) 2 rfl ?_
    refine ev_eqi (hn) ?_
    show Ev X k_X7_takeGroup (102, [some (vr 132), some (vi (sr : Int)), some (vi (sc : Int)), some (vi 1), some (vi gr), some (vi (sw : Int)), some (vi (u : Int))], [vi (n : Int)]) (MS I J cc ss) _
    refine ev_n (fr' := (103, [some (vr 132), some (vi (sr : Int)), some (vi (sc : Int)), some (vi 1), some (vi gr), some (vi (sw : Int)), some (vi (u : Int))], [vi 1, vi (n : Int)])) (S' := MS I J cc ss) 1 rfl ?_
    refine ev_sub (z := (n : Int) - 1) rfl (by omega) (by omega) (by omega) ?_
    show Ev X k_X7_takeGroup (104, [some (vr 132), some (vi (sr : Int)), some (vi (sc : Int)), some (vi 1), some (vi gr), some (vi (sw : Int)), some (vi (u : Int))], [vi ((n : Int) - 1)]) (MS I J cc ss) _
    refine ev_n (fr' := (106, [some (vr 132), some (vi (sr : Int)), some (vi (sc : Int)), some (vi 1), some (vi gr), some (vi (sw : Int)), some (vi ((n : Int) - 1))], [])) (S' := MS I J cc ss) 1 rfl ?_
    have e : u = n := by omega
    rw [e] at hW
    exact li_down1 X _ _ cc ss sr sc I0 hn hn32 hO hF hG hS G0 sw n _ (Nat.le_refl _) hW K
  · show Ev X k_X7_takeGroup (70, [some (vr 132), some (vi (sr : Int)), some (vi (sc : Int)), some (vi 1), some (vi gr), some (vi (sw : Int)), some (vi (u : Int))], []) (MS I J cc ss) _
    refine ev_n (fr' := (74, [some (vr 132), some (vi (sr : Int)), some (vi (sc : Int)), some (vi 1), some (vi gr), some (vi (sw : Int)), some (vi (u : Int))], [vi 1, vi (u : Int), vr 132])) (S' := MS I J cc ss) 3 rfl ?_
    refine ev_cz rfl rfl rfl ⟨Nat.le_of_ble_eq_true rfl, Nat.le_of_ble_eq_true rfl⟩ (sp_growRowZ_1 X _ _ _ _ u (u : Int) (by omega) hO hG hS.2.1 (by omega)) (fun z I1 J q2 => ?_)
    obtain ⟨rfl, rI1, G', hG', hgp⟩ := q2
    show Ev X k_X7_takeGroup (77, [some (vr 132), some (vi (sr : Int)), some (vi (sc : Int)), some (vi 1), some (vi gr), some (vi (sw : Int)), some (vi (u : Int))], [vi z]) (MS I1 J cc ss) _
    have hn := (congrFun (rI1 132 (by decide)) 2).trans hn
    have hO := TR.cell (rI1 133 (by decide)) hO
    have hF := hF.trans rI1
    refine ev_if (c := .ne) (off := 8) rfl (by decide) (fun (g2 : z ≠ 0) => ?_) (fun (g2 : ¬ (z ≠ 0)) => ?_)
    · show Ev X k_X7_takeGroup (85, [some (vr 132), some (vi (sr : Int)), some (vi (sc : Int)), some (vi 1), some (vi gr), some (vi (sw : Int)), some (vi (u : Int))], []) (MS I1 J cc ss) _
      refine ev_n (fr' := (92, [some (vr 132), some (vi (sr : Int)), some (vi (sc : Int)), some (vi 1), some (vi 1), some (vi (sw : Int)), some (vi (u : Int))], [])) (S' := MS I1 J cc ss) 3 rfl ?_
      refine ev_inc (z := (u : Int) + 1) rfl rfl (by omega) (by omega) (by omega) rfl ?_
      show Ev X k_X7_takeGroup (95, [some (vr 132), some (vi (sr : Int)), some (vi (sc : Int)), some (vi 1), some (vi 1), some (vi (sw : Int)), some (vi ((u : Int) + 1))], []) (MS I1 J cc ss) _
      refine ev_n (fr' := (61, [some (vr 132), some (vi (sr : Int)), some (vi (sc : Int)), some (vi 1), some (vi 1), some (vi (sw : Int)), some (vi ((u : Int) + 1))], [])) (S' := MS I1 J cc ss) 1 rfl ?_
      have h8 := hW.rng
      have h9 := hgp.rng
      exact li_up1 X _ _ cc ss sr sc I0 hn hn32 hO hF hG' (hS.next hgp) G0 sw (u + 1) _ (by omega) ((hW.next hgp (by omega) (by split <;> omega)).2 rfl) K
    · show Ev X k_X7_takeGroup (80, [some (vr 132), some (vi (sr : Int)), some (vi (sc : Int)), some (vi 1), some (vi gr), some (vi (sw : Int)), some (vi (u : Int))], []) (MS I1 J cc ss) _
      refine ev_n (fr' := (82, [some (vr 132), some (vi (sr : Int)), some (vi (sc : Int)), some (vi 1), some (vi gr), some (vi (sw : Int)), some (vi (u : Int))], [vi gr])) (S' := MS I1 J cc ss) 1 rfl ?_
      refine ev_if (c := .eq) (off := 7) rfl (by decide) (fun (g3 : gr = 0) => ?_) (fun (g3 : ¬ (gr = 0)) => ?_)
      · show Ev X k_X7_takeGroup (89, [some (vr 132), some (vi (sr : Int)), some (vi (sc : Int)), some (vi 1), some (vi gr), some (vi (sw : Int)), some (vi (u : Int))], []) (MS I1 J cc ss) _
        refine ev_n (fr' := (92, [some (vr 132), some (vi (sr : Int)), some (vi (sc : Int)), some (vi 1), some (vi 0), some (vi (sw : Int)), some (vi (u : Int))], [])) (S' := MS I1 J cc ss) 2 rfl ?_
        refine ev_inc (z := (u : Int) + 1) rfl rfl (by omega) (by omega) (by omega) rfl ?_
        show Ev X k_X7_takeGroup (95, [some (vr 132), some (vi (sr : Int)), some (vi (sc : Int)), some (vi 1), some (vi 0), some (vi (sw : Int)), some (vi ((u : Int) + 1))], []) (MS I1 J cc ss) _
        refine ev_n (fr' := (61, [some (vr 132), some (vi (sr : Int)), some (vi (sc : Int)), some (vi 1), some (vi 0), some (vi (sw : Int)), some (vi ((u : Int) + 1))], [])) (S' := MS I1 J cc ss) 1 rfl ?_
        have h8 := hW.rng
        have h9 := hgp.rng
        exact li_up1 X _ _ cc ss sr sc I0 hn hn32 hO hF hG' (hS.next hgp) G0 sw (u + 1) _ (by omega) ((hW.next hgp (by omega) (by split <;> omega)).2 rfl) K
      · show Ev X k_X7_takeGroup (85, [some (vr 132), some (vi (sr : Int)), some (vi (sc : Int)), some (vi 1), some (vi gr), some (vi (sw : Int)), some (vi (u : Int))], []) (MS I1 J cc ss) _
        refine ev_n (fr' := (92, [some (vr 132), some (vi (sr : Int)), some (vi (sc : Int)), some (vi 1), some (vi 1), some (vi (sw : Int)), some (vi (u : Int))], [])) (S' := MS I1 J cc ss) 3 rfl ?_
        refine ev_inc (z := (u : Int) + 1) rfl rfl (by omega) (by omega) (by omega) rfl ?_
        show Ev X k_X7_takeGroup (95, [some (vr 132), some (vi (sr : Int)), some (vi (sc : Int)), some (vi 1), some (vi 1), some (vi (sw : Int)), some (vi ((u : Int) + 1))], []) (MS I1 J cc ss) _
        refine ev_n (fr' := (61, [some (vr 132), some (vi (sr : Int)), some (vi (sc : Int)), some (vi 1), some (vi 1), some (vi (sw : Int)), some (vi ((u : Int) + 1))], [])) (S' := MS I1 J cc ss) 1 rfl ?_
        have h8 := hW.rng
        have h9 := hgp.rng
        exact li_up1 X _ _ cc ss sr sc I0 hn hn32 hO hF hG' (hS.next hgp) G0 sw (u + 1) _ (by omega) ((hW.next hgp (by omega) (by split <;> omega)).2 rfl) K
termination_by 33 - u
decreasing_by all_goals omega
theorem li_sweep1 (X : AX) (I J : Nat → Nat → Int) (cc ss : Nat) {Q : (Option AV ⊕ Nat) → AS → Prop} {O : B2} {n : Nat} (sr sc : Nat) (I0 : F2) (hn : I 132 2 = (n : Int)) (hn32 : n ≤ 32) (hO : TR I 133 O) (hF : only134 I0 I) {G : B2} (hG : TR I 134 G) (hS : GS O true sr sc G) (hon : ∀ y x, O y x = true → y < n) (sw : Nat) (gr : Int) (v6 : Option AV) (hsw : sw ≤ 1024) (hv : (gr = 1 ∧ (sw : Int) + 1 ≤ cntB G) ∨ (gr = 0 ∧ ∀ r, r < n → closedR O true G r)) (K : ∀ (I' : F2) (G : B2) (gr : Int) (v5 v6 : Option AV), I' 132 2 = (n : Int) → TR I' 133 O → only134 I0 I' → TR I' 134 G → isGrp O true sr sc G → Ev X k_X7_takeGroup (145, [some (vr 132), some (vi (sr : Int)), some (vi (sc : Int)), some (vi 1), some (vi gr), v5, v6], []) (MS I' J cc ss) Q) : Ev X k_X7_takeGroup (42, [some (vr 132), some (vi (sr : Int)), some (vi (sc : Int)), some (vi 1), some (vi gr), some (vi (sw : Int)), v6], []) (MS I J cc ss) (Q) := by
  refine ev_n (fr' := (47, [some (vr 132), some (vi (sr : Int)), some (vi (sc : Int)), some (vi 1), some (vi gr), some (vi (sw : Int)), v6], [vi 1024, vi (sw : Int)])) (S' := MS I J cc ss) 2 rfl ?_
  refine ev_ic (c := .ge) (off := 98) rfl (by decide) (fun (g1 : 1024 ≤ (sw : Int)) => ?_) (fun (g1 : ¬ (1024 ≤ (sw : Int))) => ?_)
  · show Ev X k_X7_takeGroup (145, [some (vr 132), some (vi (sr : Int)), some (vi (sc : Int)), some (vi 1), some (vi gr), some (vi (sw : Int)), v6], []) (MS I J cc ss) _
    have hc := cntB_rng G
    refine K I G _ _ _ hn hO hF hG (hS.grp hon ?_)
    rcases hv with ⟨q1, q2⟩ | ⟨q1, q2⟩
    · exfalso; omega
    · exact q2
  · show Ev X k_X7_takeGroup (50, [some (vr 132), some (vi (sr : Int)), some (vi (sc : Int)), some (vi 1), some (vi gr), some (vi (sw : Int)), v6], []) (MS I J cc ss) _
    refine ev_n (fr' := (52, [some (vr 132), some (vi (sr : Int)), some (vi (sc : Int)), some (vi 1), some (vi gr), some (vi (sw : Int)), v6], [vi gr])) (S' := MS I J cc ss) 1 rfl ?_
    refine ev_if (c := .eq) (off := 93) rfl (by decide) (fun (g2 : gr = 0) => ?_) (fun (g2 : ¬ (gr = 0)) => ?_)
    · show Ev X k_X7_takeGroup (145, [some (vr 132), some (vi (sr : Int)), some (vi (sc : Int)), some (vi 1), some (vi gr), some (vi (sw : Int)), v6], []) (MS I J cc ss) _
      have hc := cntB_rng G
      refine K I G _ _ _ hn hO hF hG (hS.grp hon ?_)
      rcases hv with ⟨q1, q2⟩ | ⟨q1, q2⟩
      · exfalso; omega
      · exact q2
    · show Ev X k_X7_takeGroup (55, [some (vr 132), some (vi (sr : Int)), some (vi (sc : Int)), some (vi 1), some (vi gr), some (vi (sw : Int)), v6], []) (MS I J cc ss) _
      refine ev_n (fr' := (61, [some (vr 132), some (vi (sr : Int)), some (vi (sc : Int)), some (vi 1), some (vi 0), some (vi (sw : Int)), some (vi 0)], [])) (S' := MS I J cc ss) 4 rfl ?_
      refine li_up1 X _ _ cc ss sr sc I0 hn hn32 hO hF hG hS G sw 0 0 (by omega) ⟨fun _ _ h => h, Or.inl ⟨rfl, fun _ _ => rfl, fun r h => absurd h (by omega)⟩⟩ (fun I1 G1 gr v hn hO hF hG hS hW => ?_)
      have hV : (gr = 1 ∧ (sw : Int) + 2 ≤ cntB G1) ∨ (gr = 0 ∧ ∀ r, r < n → closedR O true G1 r) := by
        rcases hW.2 with ⟨q1, q2, q3⟩ | ⟨q1, q2⟩
        · exact Or.inr ⟨q1, q3⟩
        · refine Or.inl ⟨q1, ?_⟩
          rcases hv with ⟨q3, q4⟩ | ⟨q3, q4⟩
          · omega
          · omega
      show Ev X k_X7_takeGroup (139, [some (vr 132), some (vi (sr : Int)), some (vi (sc : Int)), some (vi 1), some (vi gr), some (vi (sw : Int)), v], []) (MS I1 J cc ss) _
      refine ev_inc (z := (sw : Int) + 1) rfl rfl (by omega) (by omega) (by omega) rfl ?_
      show Ev X k_X7_takeGroup (142, [some (vr 132), some (vi (sr : Int)), some (vi (sc : Int)), some (vi 1), some (vi gr), some (vi ((sw : Int) + 1)), v], []) (MS I1 J cc ss) _
      refine ev_n (fr' := (42, [some (vr 132), some (vi (sr : Int)), some (vi (sc : Int)), some (vi 1), some (vi gr), some (vi ((sw : Int) + 1)), v], [])) (S' := MS I1 J cc ss) 1 rfl ?_
      exact li_sweep1 X _ _ cc ss sr sc I0 hn hn32 hO hF hG hS hon (sw + 1) _ _ (by omega) hV K
termination_by 1024 - sw
decreasing_by all_goals omega
theorem lp_gone1 (X : AX) (I J : Nat → Nat → Int) (cc ss : Nat) {O : B2} {n : Nat} (sr sc : Nat) (I0 : F2) (hn : I 132 2 = (n : Int)) (hn32 : n ≤ 32) (hon : ∀ y x, O y x = true → y < n) {G : B2} (hgr : isGrp O true sr sc G) (hF : only33 I0 I) (hG : TR I 134 G) (k : Nat) (gr : Int) (v6 : Option AV) (hk : k ≤ n) (hO : TR I 133 (fun y x => O y x && !(decide (y < k) && G y x))) : Ev X k_X7_takeGroup (148, [some (vr 132), some (vi (sr : Int)), some (vi (sc : Int)), some (vi 1), some (vi gr), some (vi (k : Int)), v6], []) (MS I J cc ss) (PV cc ss none (fun I' J' => J' = J ∧ only33 I0 I' ∧ I' 132 2 = (n : Int) ∧ ∃ G, isGrp O true sr sc G ∧ TR I' 134 G ∧ TR I' 133 (fun y x => O y x && !G y x))) := by
  refine ev_n (fr' := (154, [some (vr 132), some (vi (sr : Int)), some (vi (sc : Int)), some (vi 1), some (vi gr), some (vi (k : Int)), v6], [vi (I 132 2), vi (k : Int)])) (S' := MS I J cc ss) 3 rfl ?_
  refine ev_eqi (hn) ?_
  show Ev X k_X7_takeGroup (154, [some (vr 132), some (vi (sr : Int)), some (vi (sc : Int)), some (vi 1), some (vi gr), some (vi (k : Int)), v6], [vi (n : Int), vi (k : Int)]) (MS I J cc ss) _
  refine ev_ic (c := .ge) (off := 28) rfl (by decide) (fun (g1 : (n : Int) ≤ (k : Int)) => ?_) (fun (g1 : ¬ ((n : Int) ≤ (k : Int))) => ?_)
  · show Ev X k_X7_takeGroup (182, [some (vr 132), some (vi (sr : Int)), some (vi (sc : Int)), some (vi 1), some (vi gr), some (vi (k : Int)), v6], []) (MS I J cc ss) _
    refine ev_r rfl rfl rfl ?_
    refine ⟨_, _, rfl, rfl, rfl, hF, hn, G, hgr, hG, hO.congr (fun y x => ?_)⟩
    cases e : O y x with
    | false => rfl
    | true => rw [decide_eq_true (show y < k by have := hon y x e; omega)]; rfl
  · show Ev X k_X7_takeGroup (157, [some (vr 132), some (vi (sr : Int)), some (vi (sc : Int)), some (vi 1), some (vi gr), some (vi (k : Int)), v6], []) (MS I J cc ss) _
    refine ev_n (fr' := (164, [some (vr 132), some (vi (sr : Int)), some (vi (sc : Int)), some (vi 1), some (vi gr), some (vi (k : Int)), v6], [vi (k : Int), vr 133, vi (k : Int), vr 133])) (S' := MS I J cc ss) 4 rfl ?_
    refine ev_iaN (j := k) (z := (I 133 k)) rfl rfl (by omega) (by omega) (rfl) ?_
    show Ev X k_X7_takeGroup (165, [some (vr 132), some (vi (sr : Int)), some (vi (sc : Int)), some (vi 1), some (vi gr), some (vi (k : Int)), v6], [vi (I 133 k), vi (k : Int), vr 133]) (MS I J cc ss) _
    refine ev_n (fr' := (171, [some (vr 132), some (vi (sr : Int)), some (vi (sc : Int)), some (vi 1), some (vi gr), some (vi (k : Int)), v6], [vi (k : Int), vr 134, vi (I 133 k), vi (k : Int), vr 133])) (S' := MS I J cc ss) 3 rfl ?_
    refine ev_iaN (j := k) (z := (I 134 k)) rfl rfl (by omega) (by omega) (rfl) ?_
    show Ev X k_X7_takeGroup (172, [some (vr 132), some (vi (sr : Int)), some (vi (sc : Int)), some (vi 1), some (vi gr), some (vi (k : Int)), v6], [vi (I 134 k), vi (I 133 k), vi (k : Int), vr 133]) (MS I J cc ss) _
    refine ev_n (fr' := (175, [some (vr 132), some (vi (sr : Int)), some (vi (sc : Int)), some (vi 1), some (vi gr), some (vi (k : Int)), v6], [vi (opI (· &&& ·) (I 133 k) (opI (· ^^^ ·) (I 134 k) (-1))), vi (k : Int), vr 133])) (S' := MS I J cc ss) 3 rfl ?_
    refine ev_iasN (j := k) rfl rfl (by omega) (by omega) ?_
    show Ev X k_X7_takeGroup (176, [some (vr 132), some (vi (sr : Int)), some (vi (sc : Int)), some (vi 1), some (vi gr), some (vi (k : Int)), v6], []) (MS (up2 I 133 k (opI (· &&& ·) (I 133 k) (opI (· ^^^ ·) (I 134 k) (-1)))) J cc ss) _
    refine ev_inc (z := (k : Int) + 1) rfl rfl (by omega) (by omega) (by omega) rfl ?_
    show Ev X k_X7_takeGroup (179, [some (vr 132), some (vi (sr : Int)), some (vi (sc : Int)), some (vi 1), some (vi gr), some (vi ((k : Int) + 1)), v6], []) (MS (up2 I 133 k (opI (· &&& ·) (I 133 k) (opI (· ^^^ ·) (I 134 k) (-1)))) J cc ss) _
    refine ev_n (fr' := (148, [some (vr 132), some (vi (sr : Int)), some (vi (sc : Int)), some (vi 1), some (vi gr), some (vi ((k : Int) + 1)), v6], [])) (S' := MS (up2 I 133 k (opI (· &&& ·) (I 133 k) (opI (· ^^^ ·) (I 134 k) (-1)))) J cc ss) 1 rfl ?_
    exact lp_gone1 X _ _ cc ss sr sc I0 (by rw [up2_row _ _ _ _ (by decide)]; exact hn) hn32 hon hgr (hF := fun a h1 h2 => by rw [up2_row _ _ _ _ h1]; exact hF a h1 h2) (TR.cell (up2_row _ _ _ _ (by decide)) hG) (k + 1) _ _ (by omega) (hO.andnot hG (by omega) rfl)
termination_by 33 - k
decreasing_by all_goals omega
theorem lp_seed1 (X : AX) (I J : Nat → Nat → Int) (cc ss : Nat) {O : B2} {n : Nat} (sr sc : Nat) (I0 : F2) (hn : I 132 2 = (n : Int)) (hn32 : n ≤ 32) (hO : TR I 133 O) (hF : only134 I0 I) (hon : ∀ y x, O y x = true → y < n) (hs : O sr sc = true) (k : Nat) (v5 v6 : Option AV) (hk : k ≤ 32) (hZ : ∀ q, q < k → I 134 q = if q = sr then opI fShl 1 (sc : Int) else 0) : Ev X k_X7_takeGroup (3, [some (vr 132), some (vi (sr : Int)), some (vi (sc : Int)), some (vi 1), some (vi (k : Int)), v5, v6], []) (MS I J cc ss) (PV cc ss none (fun I' J' => J' = J ∧ only33 I0 I' ∧ I' 132 2 = (n : Int) ∧ ∃ G, isGrp O true sr sc G ∧ TR I' 134 G ∧ TR I' 133 (fun y x => O y x && !G y x))) := by
  refine ev_n (fr' := (7, [some (vr 132), some (vi (sr : Int)), some (vi (sc : Int)), some (vi 1), some (vi (k : Int)), v5, v6], [vi 32, vi (k : Int)])) (S' := MS I J cc ss) 2 rfl ?_
  refine ev_ic (c := .ge) (off := 29) rfl (by decide) (fun (g1 : 32 ≤ (k : Int)) => ?_) (fun (g1 : ¬ (32 ≤ (k : Int))) => ?_)
  · show Ev X k_X7_takeGroup (36, [some (vr 132), some (vi (sr : Int)), some (vi (sc : Int)), some (vi 1), some (vi (k : Int)), v5, v6], []) (MS I J cc ss) _
    refine ev_n (fr' := (42, [some (vr 132), some (vi (sr : Int)), some (vi (sc : Int)), some (vi 1), some (vi 1), some (vi 0), v6], [])) (S' := MS I J cc ss) 4 rfl ?_
    have hS0 := hon sr sc hs
    have hs32 := hO.2 sr sc hs
    have hG : TR I 134 (fun y x => decide (y = sr ∧ x = sc)) := by
      refine ⟨fun r hr => ?_, fun y x h => ?_⟩
      · rw [hZ r (by omega)]
        by_cases e : r = sr
        · rw [if_pos e]
          refine ⟨opI_rng _ _ _, fun c hc => ?_⟩
          rw [bt_shl (by omega), bt_one, decide_eq_true hc, Bool.true_and, Bool.eq_iff_iff]
          simp [e]; omega
        · rw [if_neg e]
          exact ⟨⟨by omega, by omega⟩, fun c hc => by rw [bt_zero]; exact (decide_eq_false (fun q => e q.1)).symm⟩
      · have := of_decide_eq_true h; omega
    refine li_sweep1 X _ _ cc ss sr sc I0 hn hn32 hO hF hG ⟨decide_eq_true ⟨rfl, rfl⟩, fun y x h => ?_, fun y x h => ?_⟩ hon 0 1 _ (by omega) (Or.inl ⟨rfl, ?_⟩) (fun I1 G gr v5 v6 hn hO hF hG hgr => ?_)
    · have h9 := of_decide_eq_true h; rw [h9.1, h9.2]; exact hs
    · have h9 := of_decide_eq_true h; rw [h9.1, h9.2]; exact Rch.seed
    · have h9 := cntB_add (G := fun _ _ => false) (y := sr) (x := sc) hs32.1 hs32.2 rfl
      have h8 := cntB_rng (fun _ _ => false)
      have h7 : cntB (fun y x => decide (y = sr ∧ x = sc)) = cntB (fun _ _ => false) + 1 := (cntB_congr (fun y x _ _ => (Bool.false_or _).symm)).trans h9
      omega
    show Ev X k_X7_takeGroup (145, [some (vr 132), some (vi (sr : Int)), some (vi (sc : Int)), some (vi 1), some (vi gr), v5, v6], []) (MS I1 J cc ss) _
    refine ev_n (fr' := (148, [some (vr 132), some (vi (sr : Int)), some (vi (sc : Int)), some (vi 1), some (vi gr), some (vi 0), v6], [])) (S' := MS I1 J cc ss) 2 rfl ?_
    exact lp_gone1 X _ _ cc ss sr sc I0 hn hn32 hon hgr (fun a _ h2 => hF a h2) hG 0 _ _ (by omega) (hO.congr (fun y x => by rw [decide_eq_false (by omega), Bool.false_and]; simp))
  · show Ev X k_X7_takeGroup (10, [some (vr 132), some (vi (sr : Int)), some (vi (sc : Int)), some (vi 1), some (vi (k : Int)), v5, v6], []) (MS I J cc ss) _
    refine ev_n (fr' := (19, [some (vr 132), some (vi (sr : Int)), some (vi (sc : Int)), some (vi 1), some (vi (k : Int)), v5, v6], [vi (sr : Int), vi (k : Int), vi (k : Int), vr 134])) (S' := MS I J cc ss) 5 rfl ?_
    refine ev_ic (c := .ne) (off := 9) rfl (by decide) (fun (g2 : (k : Int) ≠ (sr : Int)) => ?_) (fun (g2 : ¬ ((k : Int) ≠ (sr : Int))) => ?_)
    · show Ev X k_X7_takeGroup (28, [some (vr 132), some (vi (sr : Int)), some (vi (sc : Int)), some (vi 1), some (vi (k : Int)), v5, v6], [vi (k : Int), vr 134]) (MS I J cc ss) _
      refine ev_n (fr' := (29, [some (vr 132), some (vi (sr : Int)), some (vi (sc : Int)), some (vi 1), some (vi (k : Int)), v5, v6], [vi 0, vi (k : Int), vr 134])) (S' := MS I J cc ss) 1 rfl ?_
      refine ev_iasN (j := k) rfl rfl (by omega) (by omega) ?_
      show Ev X k_X7_takeGroup (30, [some (vr 132), some (vi (sr : Int)), some (vi (sc : Int)), some (vi 1), some (vi (k : Int)), v5, v6], []) (MS (up2 I 134 k 0) J cc ss) _
      refine ev_inc (z := (k : Int) + 1) rfl rfl (by omega) (by omega) (by omega) rfl ?_
      show Ev X k_X7_takeGroup (33, [some (vr 132), some (vi (sr : Int)), some (vi (sc : Int)), some (vi 1), some (vi ((k : Int) + 1)), v5, v6], []) (MS (up2 I 134 k 0) J cc ss) _
      refine ev_n (fr' := (3, [some (vr 132), some (vi (sr : Int)), some (vi (sc : Int)), some (vi 1), some (vi ((k : Int) + 1)), v5, v6], [])) (S' := MS (up2 I 134 k 0) J cc ss) 1 rfl ?_
      exact lp_seed1 X _ _ cc ss sr sc I0 (by rw [up2_row _ _ _ _ (by decide)]; exact hn) hn32 (TR.cell (up2_row _ _ _ _ (by decide)) hO) (fun a ha => by rw [up2_row _ _ _ _ ha]; exact hF a ha) hon hs (k + 1) _ _ (by omega) (fun q hq => by
        by_cases e : q = k
        · rw [e, up2_same]; first | rw [if_pos (by omega)] | rw [if_neg (by omega)]
        · rw [up2_ne2 _ _ _ _ e]; exact hZ q (by omega))
    · show Ev X k_X7_takeGroup (22, [some (vr 132), some (vi (sr : Int)), some (vi (sc : Int)), some (vi 1), some (vi (k : Int)), v5, v6], [vi (k : Int), vr 134]) (MS I J cc ss) _
      refine ev_n (fr' := (29, [some (vr 132), some (vi (sr : Int)), some (vi (sc : Int)), some (vi 1), some (vi (k : Int)), v5, v6], [vi (opI fShl 1 (sc : Int)), vi (k : Int), vr 134])) (S' := MS I J cc ss) 4 rfl ?_
      refine ev_iasN (j := k) rfl rfl (by omega) (by omega) ?_
      show Ev X k_X7_takeGroup (30, [some (vr 132), some (vi (sr : Int)), some (vi (sc : Int)), some (vi 1), some (vi (k : Int)), v5, v6], []) (MS (up2 I 134 k (opI fShl 1 (sc : Int))) J cc ss) _
      refine ev_inc (z := (k : Int) + 1) rfl rfl (by omega) (by omega) (by omega) rfl ?_
      show Ev X k_X7_takeGroup (33, [some (vr 132), some (vi (sr : Int)), some (vi (sc : Int)), some (vi 1), some (vi ((k : Int) + 1)), v5, v6], []) (MS (up2 I 134 k (opI fShl 1 (sc : Int))) J cc ss) _
      refine ev_n (fr' := (3, [some (vr 132), some (vi (sr : Int)), some (vi (sc : Int)), some (vi 1), some (vi ((k : Int) + 1)), v5, v6], [])) (S' := MS (up2 I 134 k (opI fShl 1 (sc : Int))) J cc ss) 1 rfl ?_
      exact lp_seed1 X _ _ cc ss sr sc I0 (by rw [up2_row _ _ _ _ (by decide)]; exact hn) hn32 (TR.cell (up2_row _ _ _ _ (by decide)) hO) (fun a ha => by rw [up2_row _ _ _ _ ha]; exact hF a ha) hon hs (k + 1) _ _ (by omega) (fun q hq => by
        by_cases e : q = k
        · rw [e, up2_same]; first | rw [if_pos (by omega)] | rw [if_neg (by omega)]
        · rw [up2_ne2 _ _ _ _ e]; exact hZ q (by omega))
termination_by 32 - k
decreasing_by all_goals omega
theorem sp_takeGroup1 (X : AX) (I J : Nat → Nat → Int) (cc ss : Nat) {O : B2} {n : Nat} (sr sc : Nat) (hn : I 132 2 = (n : Int)) (hn32 : n ≤ 32) (hO : TR I 133 O) (hon : ∀ y x, O y x = true → y < n) (hs : O sr sc = true) : Ev X k_X7_takeGroup (0, [some (vr 132), some (vi (sr : Int)), some (vi (sc : Int)), some (vi 1), none, none, none], []) (MS I J cc ss) (PV cc ss none (fun I' J' => J' = J ∧ only33 I I' ∧ I' 132 2 = (n : Int) ∧ ∃ G, isGrp O true sr sc G ∧ TR I' 134 G ∧ TR I' 133 (fun y x => O y x && !G y x))) := by
  refine ev_n (fr' := (3, [some (vr 132), some (vi (sr : Int)), some (vi (sc : Int)), some (vi 1), some (vi 0), none, none], [])) (S' := MS I J cc ss) 2 rfl ?_
  exact lp_seed1 X _ _ cc ss sr sc I hn hn32 hO (fun _ _ => rfl) hon hs 0 _ _ (by omega) (fun q h => absurd h (by omega))
theorem sp_growRowZ_0 (X : AX) (I J : Nat → Nat → Int) (cc ss : Nat) {O G : B2} (k : Nat) (z9 : Int) (hz : z9 = (k : Int)) (hO : TR I 133 O) (hG : TR I 134 G) (hGO : ∀ y x, G y x = true → O y x = true) (hk : k < 32) : Ev X k_X7_growRow (0, [some (vr 132), some (vi z9), some (vi 0), none, none, none, none], []) (MS I J cc ss) (PZ cc ss (fun z I' J' => J' = J ∧ only134 I I' ∧ ∃ G', TR I' 134 G' ∧ GrowP O false k G G' z)) := by
  subst hz; exact sp_growRow_0 X I J cc ss k hO hG hGO hk
theorem li_down0 (X : AX) (I J : Nat → Nat → Int) (cc ss : Nat) {Q : (Option AV ⊕ Nat) → AS → Prop} {O : B2} {n : Nat} (sr sc : Nat) (I0 : F2) (hn : I 132 2 = (n : Int)) (hn32 : n ≤ 32) (hO : TR I 133 O) (hF : only134 I0 I) {G : B2} (hG : TR I 134 G) (hS : GS O false sr sc G) (G0 : B2) (sw d : Nat) (gr : Int) (hd : d ≤ n) (hW : SW O false G0 G gr n) (K : ∀ (I' : F2) (G : B2) (gr : Int) (v : Option AV), I' 132 2 = (n : Int) → TR I' 133 O → only134 I0 I' → TR I' 134 G → GS O false sr sc G → SW O false G0 G gr n → Ev X k_X7_takeGroup (139, [some (vr 132), some (vi (sr : Int)), some (vi (sc : Int)), some (vi 0), some (vi gr), some (vi (sw : Int)), v], []) (MS I' J cc ss) Q) : Ev X k_X7_takeGroup (106, [some (vr 132), some (vi (sr : Int)), some (vi (sc : Int)), some (vi 0), some (vi gr), some (vi (sw : Int)), some (vi ((d : Int) - 1))], []) (MS I J cc ss) (Q) := by
  refine ev_n (fr' := (108, [some (vr 132), some (vi (sr : Int)), some (vi (sc : Int)), some (vi 0), some (vi gr), some (vi (sw : Int)), some (vi ((d : Int) - 1))], [vi ((d : Int) - 1)])) (S' := MS I J cc ss) 1 rfl ?_
  refine ev_if (c := .lt) (off := 31) rfl (by decide) (fun (g1 : (d : Int) - 1 < 0) => ?_) (fun (g1 : ¬ ((d : Int) - 1 < 0)) => ?_)
  · show Ev X k_X7_takeGroup (139, [some (vr 132), some (vi (sr : Int)), some (vi (sc : Int)), some (vi 0), some (vi gr), some (vi (sw : Int)), some (vi ((d : Int) - 1))], []) (MS I J cc ss) _
    exact K I _ _ _ hn hO hF hG hS hW
  · show Ev X k_X7_takeGroup (111, [some (vr 132), some (vi (sr : Int)), some (vi (sc : Int)), some (vi 0), some (vi gr), some (vi (sw : Int)), some (vi ((d : Int) - 1))], []) (MS I J cc ss) _
    refine ev_n (fr' := (115, [some (vr 132), some (vi (sr : Int)), some (vi (sc : Int)), some (vi 0), some (vi gr), some (vi (sw : Int)), some (vi ((d : Int) - 1))], [vi 0, vi ((d : Int) - 1), vr 132])) (S' := MS I J cc ss) 3 rfl ?_
    refine ev_cz rfl rfl rfl ⟨Nat.le_of_ble_eq_true rfl, Nat.le_of_ble_eq_true rfl⟩ (sp_growRowZ_0 X _ _ _ _ (d - 1) ((d : Int) - 1) (by omega) hO hG hS.2.1 (by omega)) (fun z I1 J q2 => ?_)
    obtain ⟨rfl, rI1, G', hG', hgp⟩ := q2
    show Ev X k_X7_takeGroup (118, [some (vr 132), some (vi (sr : Int)), some (vi (sc : Int)), some (vi 0), some (vi gr), some (vi (sw : Int)), some (vi ((d : Int) - 1))], [vi z]) (MS I1 J cc ss) _
    have hn := (congrFun (rI1 132 (by decide)) 2).trans hn
    have hO := TR.cell (rI1 133 (by decide)) hO
    have hF := hF.trans rI1
    refine ev_if (c := .ne) (off := 8) rfl (by decide) (fun (g2 : z ≠ 0) => ?_) (fun (g2 : ¬ (z ≠ 0)) => ?_)
    · show Ev X k_X7_takeGroup (126, [some (vr 132), some (vi (sr : Int)), some (vi (sc : Int)), some (vi 0), some (vi gr), some (vi (sw : Int)), some (vi ((d : Int) - 1))], []) (MS I1 J cc ss) _
      refine ev_n (fr' := (133, [some (vr 132), some (vi (sr : Int)), some (vi (sc : Int)), some (vi 0), some (vi 1), some (vi (sw : Int)), some (vi ((d : Int) - 1))], [])) (S' := MS I1 J cc ss) 3 rfl ?_
      refine ev_inc (z := (d : Int) - 2) rfl rfl (by omega) (by omega) (by omega) rfl ?_
      show Ev X k_X7_takeGroup (136, [some (vr 132), some (vi (sr : Int)), some (vi (sc : Int)), some (vi 0), some (vi 1), some (vi (sw : Int)), some (vi ((d : Int) - 2))], []) (MS I1 J cc ss) _
      refine ev_n (fr' := (106, [some (vr 132), some (vi (sr : Int)), some (vi (sc : Int)), some (vi 0), some (vi 1), some (vi (sw : Int)), some (vi ((d : Int) - 2))], [])) (S' := MS I1 J cc ss) 1 rfl ?_
      have h8 := hW.rng
      have h9 := hgp.rng
      rw [show (d : Int) - 2 = ((d - 1 : Nat) : Int) - 1 by omega]
      exact li_down0 X _ _ cc ss sr sc I0 hn hn32 hO hF hG' (hS.next hgp) G0 sw (d - 1) _ (by omega) (hW.next hgp (by omega) (by split <;> omega)).1 K
    · show Ev X k_X7_takeGroup (121, [some (vr 132), some (vi (sr : Int)), some (vi (sc : Int)), some (vi 0), some (vi gr), some (vi (sw : Int)), some (vi ((d : Int) - 1))], []) (MS I1 J cc ss) _
      refine ev_n (fr' := (123, [some (vr 132), some (vi (sr : Int)), some (vi (sc : Int)), some (vi 0), some (vi gr), some (vi (sw : Int)), some (vi ((d : Int) - 1))], [vi gr])) (S' := MS I1 J cc ss) 1 rfl ?_
      refine ev_if (c := .eq) (off := 7) rfl (by decide) (fun (g3 : gr = 0) => ?_) (fun (g3 : ¬ (gr = 0)) => ?_)
      · show Ev X k_X7_takeGroup (130, [some (vr 132), some (vi (sr : Int)), some (vi (sc : Int)), some (vi 0), some (vi gr), some (vi (sw : Int)), some (vi ((d : Int) - 1))], []) (MS I1 J cc ss) _
        refine ev_n (fr' := (133, [some (vr 132), some (vi (sr : Int)), some (vi (sc : Int)), some (vi 0), some (vi 0), some (vi (sw : Int)), some (vi ((d : Int) - 1))], [])) (S' := MS I1 J cc ss) 2 rfl ?_
        refine ev_inc (z := (d : Int) - 2) rfl rfl (by omega) (by omega) (by omega) rfl ?_
        show Ev X k_X7_takeGroup (136, [some (vr 132), some (vi (sr : Int)), some (vi (sc : Int)), some (vi 0), some (vi 0), some (vi (sw : Int)), some (vi ((d : Int) - 2))], []) (MS I1 J cc ss) _
        refine ev_n (fr' := (106, [some (vr 132), some (vi (sr : Int)), some (vi (sc : Int)), some (vi 0), some (vi 0), some (vi (sw : Int)), some (vi ((d : Int) - 2))], [])) (S' := MS I1 J cc ss) 1 rfl ?_
        have h8 := hW.rng
        have h9 := hgp.rng
        rw [show (d : Int) - 2 = ((d - 1 : Nat) : Int) - 1 by omega]
        exact li_down0 X _ _ cc ss sr sc I0 hn hn32 hO hF hG' (hS.next hgp) G0 sw (d - 1) _ (by omega) (hW.next hgp (by omega) (by split <;> omega)).1 K
      · show Ev X k_X7_takeGroup (126, [some (vr 132), some (vi (sr : Int)), some (vi (sc : Int)), some (vi 0), some (vi gr), some (vi (sw : Int)), some (vi ((d : Int) - 1))], []) (MS I1 J cc ss) _
        refine ev_n (fr' := (133, [some (vr 132), some (vi (sr : Int)), some (vi (sc : Int)), some (vi 0), some (vi 1), some (vi (sw : Int)), some (vi ((d : Int) - 1))], [])) (S' := MS I1 J cc ss) 3 rfl ?_
        refine ev_inc (z := (d : Int) - 2) rfl rfl (by omega) (by omega) (by omega) rfl ?_
        show Ev X k_X7_takeGroup (136, [some (vr 132), some (vi (sr : Int)), some (vi (sc : Int)), some (vi 0), some (vi 1), some (vi (sw : Int)), some (vi ((d : Int) - 2))], []) (MS I1 J cc ss) _
        refine ev_n (fr' := (106, [some (vr 132), some (vi (sr : Int)), some (vi (sc : Int)), some (vi 0), some (vi 1), some (vi (sw : Int)), some (vi ((d : Int) - 2))], [])) (S' := MS I1 J cc ss) 1 rfl ?_
        have h8 := hW.rng
        have h9 := hgp.rng
        rw [show (d : Int) - 2 = ((d - 1 : Nat) : Int) - 1 by omega]
        exact li_down0 X _ _ cc ss sr sc I0 hn hn32 hO hF hG' (hS.next hgp) G0 sw (d - 1) _ (by omega) (hW.next hgp (by omega) (by split <;> omega)).1 K
termination_by d
decreasing_by all_goals omega
theorem li_up0 (X : AX) (I J : Nat → Nat → Int) (cc ss : Nat) {Q : (Option AV ⊕ Nat) → AS → Prop} {O : B2} {n : Nat} (sr sc : Nat) (I0 : F2) (hn : I 132 2 = (n : Int)) (hn32 : n ≤ 32) (hO : TR I 133 O) (hF : only134 I0 I) {G : B2} (hG : TR I 134 G) (hS : GS O false sr sc G) (G0 : B2) (sw u : Nat) (gr : Int) (hu : u ≤ n) (hW : SW O false G0 G gr u) (K : ∀ (I' : F2) (G : B2) (gr : Int) (v : Option AV), I' 132 2 = (n : Int) → TR I' 133 O → only134 I0 I' → TR I' 134 G → GS O false sr sc G → SW O false G0 G gr n → Ev X k_X7_takeGroup (139, [some (vr 132), some (vi (sr : Int)), some (vi (sc : Int)), some (vi 0), some (vi gr), some (vi (sw : Int)), v], []) (MS I' J cc ss) Q) : Ev X k_X7_takeGroup (61, [some (vr 132), some (vi (sr : Int)), some (vi (sc : Int)), some (vi 0), some (vi gr), some (vi (sw : Int)), some (vi (u : Int))], []) (MS I J cc ss) (Q) := by
  refine ev_n (fr' := (67, [some (vr 132), some (vi (sr : Int)), some (vi (sc : Int)), some (vi 0), some (vi gr), some (vi (sw : Int)), some (vi (u : Int))], [vi (I 132 2), vi (u : Int)])) (S' := MS I J cc ss) 3 rfl ?_
  refine ev_eqi (hn) ?_
  show Ev X k_X7_takeGroup (67, [some (vr 132), some (vi (sr : Int)), some (vi (sc : Int)), some (vi 0), some (vi gr), some (vi (sw : Int)), some (vi (u : Int))], [vi (n : Int), vi (u : Int)]) (MS I J cc ss) _
  refine ev_ic (c := .ge) (off := 31) rfl (by decide) (fun (g1 : (n : Int) ≤ (u : Int)) => ?_) (fun (g1 : ¬ ((n : Int) ≤ (u : Int))) => ?_)
  · show Ev X k_X7_takeGroup (98, [some (vr 132), some (vi (sr : Int)), some (vi (sc : Int)), some (vi 0), some (vi gr), some (vi (sw : Int)), some (vi (u : Int))], []) (MS I J cc ss) _
    refine ev_n (fr' := (102, [some (vr 132), some (vi (sr : Int)), some (vi (sc : Int)), some (vi 0), some (vi gr), some (vi (sw : Int)), some (vi (u : Int))], [vi (I 132 2)])) (S' := MS I J cc ss) 2 rfl ?_
    refine ev_eqi (hn) ?_
    show Ev X k_X7_takeGroup (102, [some (vr 132), some (vi (sr : Int)), some (vi (sc : Int)), some (vi 0), some (vi gr), some (vi (sw : Int)), some (vi (u : Int))], [vi (n : Int)]) (MS I J cc ss) _
    refine ev_n (fr' := (103, [some (vr 132), some (vi (sr : Int)), some (vi (sc : Int)), some (vi 0), some (vi gr), some (vi (sw : Int)), some (vi (u : Int))], [vi 1, vi (n : Int)])) (S' := MS I J cc ss) 1 rfl ?_
    refine ev_sub (z := (n : Int) - 1) rfl (by omega) (by omega) (by omega) ?_
    show Ev X k_X7_takeGroup (104, [some (vr 132), some (vi (sr : Int)), some (vi (sc : Int)), some (vi 0), some (vi gr), some (vi (sw : Int)), some (vi (u : Int))], [vi ((n : Int) - 1)]) (MS I J cc ss) _
    refine ev_n (fr' := (106, [some (vr 132), some (vi (sr : Int)), some (vi (sc : Int)), some (vi 0), some (vi gr), some (vi (sw : Int)), some (vi ((n : Int) - 1))], [])) (S' := MS I J cc ss) 1 rfl ?_
    have e : u = n := by omega
    rw [e] at hW
    exact li_down0 X _ _ cc ss sr sc I0 hn hn32 hO hF hG hS G0 sw n _ (Nat.le_refl _) hW K
  · show Ev X k_X7_takeGroup (70, [some (vr 132), some (vi (sr : Int)), some (vi (sc : Int)), some (vi 0), some (vi gr), some (vi (sw : Int)), some (vi (u : Int))], []) (MS I J cc ss) _
    refine ev_n (fr' := (74, [some (vr 132), some (vi (sr : Int)), some (vi (sc : Int)), some (vi 0), some (vi gr), some (vi (sw : Int)), some (vi (u : Int))], [vi 0, vi (u : Int), vr 132])) (S' := MS I J cc ss) 3 rfl ?_
    refine ev_cz rfl rfl rfl ⟨Nat.le_of_ble_eq_true rfl, Nat.le_of_ble_eq_true rfl⟩ (sp_growRowZ_0 X _ _ _ _ u (u : Int) (by omega) hO hG hS.2.1 (by omega)) (fun z I1 J q2 => ?_)
    obtain ⟨rfl, rI1, G', hG', hgp⟩ := q2
    show Ev X k_X7_takeGroup (77, [some (vr 132), some (vi (sr : Int)), some (vi (sc : Int)), some (vi 0), some (vi gr), some (vi (sw : Int)), some (vi (u : Int))], [vi z]) (MS I1 J cc ss) _
    have hn := (congrFun (rI1 132 (by decide)) 2).trans hn
    have hO := TR.cell (rI1 133 (by decide)) hO
    have hF := hF.trans rI1
    refine ev_if (c := .ne) (off := 8) rfl (by decide) (fun (g2 : z ≠ 0) => ?_) (fun (g2 : ¬ (z ≠ 0)) => ?_)
    · show Ev X k_X7_takeGroup (85, [some (vr 132), some (vi (sr : Int)), some (vi (sc : Int)), some (vi 0), some (vi gr), some (vi (sw : Int)), some (vi (u : Int))], []) (MS I1 J cc ss) _
      refine ev_n (fr' := (92, [some (vr 132), some (vi (sr : Int)), some (vi (sc : Int)), some (vi 0), some (vi 1), some (vi (sw : Int)), some (vi (u : Int))], [])) (S' := MS I1 J cc ss) 3 rfl ?_
      refine ev_inc (z := (u : Int) + 1) rfl rfl (by omega) (by omega) (by omega) rfl ?_
      show Ev X k_X7_takeGroup (95, [some (vr 132), some (vi (sr : Int)), some (vi (sc : Int)), some (vi 0), some (vi 1), some (vi (sw : Int)), some (vi ((u : Int) + 1))], []) (MS I1 J cc ss) _
      refine ev_n (fr' := (61, [some (vr 132), some (vi (sr : Int)), some (vi (sc : Int)), some (vi 0), some (vi 1), some (vi (sw : Int)), some (vi ((u : Int) + 1))], [])) (S' := MS I1 J cc ss) 1 rfl ?_
      have h8 := hW.rng
      have h9 := hgp.rng
      exact li_up0 X _ _ cc ss sr sc I0 hn hn32 hO hF hG' (hS.next hgp) G0 sw (u + 1) _ (by omega) ((hW.next hgp (by omega) (by split <;> omega)).2 rfl) K
    · show Ev X k_X7_takeGroup (80, [some (vr 132), some (vi (sr : Int)), some (vi (sc : Int)), some (vi 0), some (vi gr), some (vi (sw : Int)), some (vi (u : Int))], []) (MS I1 J cc ss) _
      refine ev_n (fr' := (82, [some (vr 132), some (vi (sr : Int)), some (vi (sc : Int)), some (vi 0), some (vi gr), some (vi (sw : Int)), some (vi (u : Int))], [vi gr])) (S' := MS I1 J cc ss) 1 rfl ?_
      refine ev_if (c := .eq) (off := 7) rfl (by decide) (fun (g3 : gr = 0) => ?_) (fun (g3 : ¬ (gr = 0)) => ?_)
      · show Ev X k_X7_takeGroup (89, [some (vr 132), some (vi (sr : Int)), some (vi (sc : Int)), some (vi 0), some (vi gr), some (vi (sw : Int)), some (vi (u : Int))], []) (MS I1 J cc ss) _
        refine ev_n (fr' := (92, [some (vr 132), some (vi (sr : Int)), some (vi (sc : Int)), some (vi 0), some (vi 0), some (vi (sw : Int)), some (vi (u : Int))], [])) (S' := MS I1 J cc ss) 2 rfl ?_
        refine ev_inc (z := (u : Int) + 1) rfl rfl (by omega) (by omega) (by omega) rfl ?_
        show Ev X k_X7_takeGroup (95, [some (vr 132), some (vi (sr : Int)), some (vi (sc : Int)), some (vi 0), some (vi 0), some (vi (sw : Int)), some (vi ((u : Int) + 1))], []) (MS I1 J cc ss) _
        refine ev_n (fr' := (61, [some (vr 132), some (vi (sr : Int)), some (vi (sc : Int)), some (vi 0), some (vi 0), some (vi (sw : Int)), some (vi ((u : Int) + 1))], [])) (S' := MS I1 J cc ss) 1 rfl ?_
        have h8 := hW.rng
        have h9 := hgp.rng
        exact li_up0 X _ _ cc ss sr sc I0 hn hn32 hO hF hG' (hS.next hgp) G0 sw (u + 1) _ (by omega) ((hW.next hgp (by omega) (by split <;> omega)).2 rfl) K
      · show Ev X k_X7_takeGroup (85, [some (vr 132), some (vi (sr : Int)), some (vi (sc : Int)), some (vi 0), some (vi gr), some (vi (sw : Int)), some (vi (u : Int))], []) (MS I1 J cc ss) _
        refine ev_n (fr' := (92, [some (vr 132), some (vi (sr : Int)), some (vi (sc : Int)), some (vi 0), some (vi 1), some (vi (sw : Int)), some (vi (u : Int))], [])) (S' := MS I1 J cc ss) 3 rfl ?_
        refine ev_inc (z := (u : Int) + 1) rfl rfl (by omega) (by omega) (by omega) rfl ?_
        show Ev X k_X7_takeGroup (95, [some (vr 132), some (vi (sr : Int)), some (vi (sc : Int)), some (vi 0), some (vi 1), some (vi (sw : Int)), some (vi ((u : Int) + 1))], []) (MS I1 J cc ss) _
        refine ev_n (fr' := (61, [some (vr 132), some (vi (sr : Int)), some (vi (sc : Int)), some (vi 0), some (vi 1), some (vi (sw : Int)), some (vi ((u : Int) + 1))], [])) (S' := MS I1 J cc ss) 1 rfl ?_
        have h8 := hW.rng
        have h9 := hgp.rng
        exact li_up0 X _ _ cc ss sr sc I0 hn hn32 hO hF hG' (hS.next hgp) G0 sw (u + 1) _ (by omega) ((hW.next hgp (by omega) (by split <;> omega)).2 rfl) K
termination_by 33 - u
decreasing_by all_goals omega
theorem li_sweep0 (X : AX) (I J : Nat → Nat → Int) (cc ss : Nat) {Q : (Option AV ⊕ Nat) → AS → Prop} {O : B2} {n : Nat} (sr sc : Nat) (I0 : F2) (hn : I 132 2 = (n : Int)) (hn32 : n ≤ 32) (hO : TR I 133 O) (hF : only134 I0 I) {G : B2} (hG : TR I 134 G) (hS : GS O false sr sc G) (hon : ∀ y x, O y x = true → y < n) (sw : Nat) (gr : Int) (v6 : Option AV) (hsw : sw ≤ 1024) (hv : (gr = 1 ∧ (sw : Int) + 1 ≤ cntB G) ∨ (gr = 0 ∧ ∀ r, r < n → closedR O false G r)) (K : ∀ (I' : F2) (G : B2) (gr : Int) (v5 v6 : Option AV), I' 132 2 = (n : Int) → TR I' 133 O → only134 I0 I' → TR I' 134 G → isGrp O false sr sc G → Ev X k_X7_takeGroup (145, [some (vr 132), some (vi (sr : Int)), some (vi (sc : Int)), some (vi 0), some (vi gr), v5, v6], []) (MS I' J cc ss) Q) : Ev X k_X7_takeGroup (42, [some (vr 132), some (vi (sr : Int)), some (vi (sc : Int)), some (vi 0), some (vi gr), some (vi (sw : Int)), v6], []) (MS I J cc ss) (Q) := by
  refine ev_n (fr' := (47, [some (vr 132), some (vi (sr : Int)), some (vi (sc : Int)), some (vi 0), some (vi gr), some (vi (sw : Int)), v6], [vi 1024, vi (sw : Int)])) (S' := MS I J cc ss) 2 rfl ?_
  refine ev_ic (c := .ge) (off := 98) rfl (by decide) (fun (g1 : 1024 ≤ (sw : Int)) => ?_) (fun (g1 : ¬ (1024 ≤ (sw : Int))) => ?_)
  · show Ev X k_X7_takeGroup (145, [some (vr 132), some (vi (sr : Int)), some (vi (sc : Int)), some (vi 0), some (vi gr), some (vi (sw : Int)), v6], []) (MS I J cc ss) _
    have hc := cntB_rng G
    refine K I G _ _ _ hn hO hF hG (hS.grp hon ?_)
    rcases hv with ⟨q1, q2⟩ | ⟨q1, q2⟩
    · exfalso; omega
    · exact q2
  · show Ev X k_X7_takeGroup (50, [some (vr 132), some (vi (sr : Int)), some (vi (sc : Int)), some (vi 0), some (vi gr), some (vi (sw : Int)), v6], []) (MS I J cc ss) _
    refine ev_n (fr' := (52, [some (vr 132), some (vi (sr : Int)), some (vi (sc : Int)), some (vi 0), some (vi gr), some (vi (sw : Int)), v6], [vi gr])) (S' := MS I J cc ss) 1 rfl ?_
    refine ev_if (c := .eq) (off := 93) rfl (by decide) (fun (g2 : gr = 0) => ?_) (fun (g2 : ¬ (gr = 0)) => ?_)
    · show Ev X k_X7_takeGroup (145, [some (vr 132), some (vi (sr : Int)), some (vi (sc : Int)), some (vi 0), some (vi gr), some (vi (sw : Int)), v6], []) (MS I J cc ss) _
      have hc := cntB_rng G
      refine K I G _ _ _ hn hO hF hG (hS.grp hon ?_)
      rcases hv with ⟨q1, q2⟩ | ⟨q1, q2⟩
      · exfalso; omega
      · exact q2
    · show Ev X k_X7_takeGroup (55, [some (vr 132), some (vi (sr : Int)), some (vi (sc : Int)), some (vi 0), some (vi gr), some (vi (sw : Int)), v6], []) (MS I J cc ss) _
      refine ev_n (fr' := (61, [some (vr 132), some (vi (sr : Int)), some (vi (sc : Int)), some (vi 0), some (vi 0), some (vi (sw : Int)), some (vi 0)], [])) (S' := MS I J cc ss) 4 rfl ?_
      refine li_up0 X _ _ cc ss sr sc I0 hn hn32 hO hF hG hS G sw 0 0 (by omega) ⟨fun _ _ h => h, Or.inl ⟨rfl, fun _ _ => rfl, fun r h => absurd h (by omega)⟩⟩ (fun I1 G1 gr v hn hO hF hG hS hW => ?_)
      have hV : (gr = 1 ∧ (sw : Int) + 2 ≤ cntB G1) ∨ (gr = 0 ∧ ∀ r, r < n → closedR O false G1 r) := by
        rcases hW.2 with ⟨q1, q2, q3⟩ | ⟨q1, q2⟩
        · exact Or.inr ⟨q1, q3⟩
        · refine Or.inl ⟨q1, ?_⟩
          rcases hv with ⟨q3, q4⟩ | ⟨q3, q4⟩
          · omega
          · omega
      show Ev X k_X7_takeGroup (139, [some (vr 132), some (vi (sr : Int)), some (vi (sc : Int)), some (vi 0), some (vi gr), some (vi (sw : Int)), v], []) (MS I1 J cc ss) _
      refine ev_inc (z := (sw : Int) + 1) rfl rfl (by omega) (by omega) (by omega) rfl ?_
      show Ev X k_X7_takeGroup (142, [some (vr 132), some (vi (sr : Int)), some (vi (sc : Int)), some (vi 0), some (vi gr), some (vi ((sw : Int) + 1)), v], []) (MS I1 J cc ss) _
      refine ev_n (fr' := (42, [some (vr 132), some (vi (sr : Int)), some (vi (sc : Int)), some (vi 0), some (vi gr), some (vi ((sw : Int) + 1)), v], [])) (S' := MS I1 J cc ss) 1 rfl ?_
      exact li_sweep0 X _ _ cc ss sr sc I0 hn hn32 hO hF hG hS hon (sw + 1) _ _ (by omega) hV K
termination_by 1024 - sw
decreasing_by all_goals omega
theorem lp_gone0 (X : AX) (I J : Nat → Nat → Int) (cc ss : Nat) {O : B2} {n : Nat} (sr sc : Nat) (I0 : F2) (hn : I 132 2 = (n : Int)) (hn32 : n ≤ 32) (hon : ∀ y x, O y x = true → y < n) {G : B2} (hgr : isGrp O false sr sc G) (hF : only33 I0 I) (hG : TR I 134 G) (k : Nat) (gr : Int) (v6 : Option AV) (hk : k ≤ n) (hO : TR I 133 (fun y x => O y x && !(decide (y < k) && G y x))) : Ev X k_X7_takeGroup (148, [some (vr 132), some (vi (sr : Int)), some (vi (sc : Int)), some (vi 0), some (vi gr), some (vi (k : Int)), v6], []) (MS I J cc ss) (PV cc ss none (fun I' J' => J' = J ∧ only33 I0 I' ∧ I' 132 2 = (n : Int) ∧ ∃ G, isGrp O false sr sc G ∧ TR I' 134 G ∧ TR I' 133 (fun y x => O y x && !G y x))) := by
  refine ev_n (fr' := (154, [some (vr 132), some (vi (sr : Int)), some (vi (sc : Int)), some (vi 0), some (vi gr), some (vi (k : Int)), v6], [vi (I 132 2), vi (k : Int)])) (S' := MS I J cc ss) 3 rfl ?_
  refine ev_eqi (hn) ?_
  show Ev X k_X7_takeGroup (154, [some (vr 132), some (vi (sr : Int)), some (vi (sc : Int)), some (vi 0), some (vi gr), some (vi (k : Int)), v6], [vi (n : Int), vi (k : Int)]) (MS I J cc ss) _
  refine ev_ic (c := .ge) (off := 28) rfl (by decide) (fun (g1 : (n : Int) ≤ (k : Int)) => ?_) (fun (g1 : ¬ ((n : Int) ≤ (k : Int))) => ?_)
  · show Ev X k_X7_takeGroup (182, [some (vr 132), some (vi (sr : Int)), some (vi (sc : Int)), some (vi 0), some (vi gr), some (vi (k : Int)), v6], []) (MS I J cc ss) _
    refine ev_r rfl rfl rfl ?_
    refine ⟨_, _, rfl, rfl, rfl, hF, hn, G, hgr, hG, hO.congr (fun y x => ?_)⟩
    cases e : O y x with
    | false => rfl
    | true => rw [decide_eq_true (show y < k by have := hon y x e; omega)]; rfl
  · show Ev X k_X7_takeGroup (157, [some (vr 132), some (vi (sr : Int)), some (vi (sc : Int)), some (vi 0), some (vi gr), some (vi (k : Int)), v6], []) (MS I J cc ss) _
    refine ev_n (fr' := (164, [some (vr 132), some (vi (sr : Int)), some (vi (sc : Int)), some (vi 0), some (vi gr), some (vi (k : Int)), v6], [vi (k : Int), vr 133, vi (k : Int), vr 133])) (S' := MS I J cc ss) 4 rfl ?_
    refine ev_iaN (j := k) (z := (I 133 k)) rfl rfl (by omega) (by omega) (rfl) ?_
    show Ev X k_X7_takeGroup (165, [some (vr 132), some (vi (sr : Int)), some (vi (sc : Int)), some (vi 0), some (vi gr), some (vi (k : Int)), v6], [vi (I 133 k), vi (k : Int), vr 133]) (MS I J cc ss) _
    refine ev_n (fr' := (171, [some (vr 132), some (vi (sr : Int)), some (vi (sc : Int)), some (vi 0), some (vi gr), some (vi (k : Int)), v6], [vi (k : Int), vr 134, vi (I 133 k), vi (k : Int), vr 133])) (S' := MS I J cc ss) 3 rfl ?_
    refine ev_iaN (j := k) (z := (I 134 k)) rfl rfl (by omega) (by omega) (rfl) ?_
    show Ev X k_X7_takeGroup (172, [some (vr 132), some (vi (sr : Int)), some (vi (sc : Int)), some (vi 0), some (vi gr), some (vi (k : Int)), v6], [vi (I 134 k), vi (I 133 k), vi (k : Int), vr 133]) (MS I J cc ss) _
    refine ev_n (fr' := (175, [some (vr 132), some (vi (sr : Int)), some (vi (sc : Int)), some (vi 0), some (vi gr), some (vi (k : Int)), v6], [vi (opI (· &&& ·) (I 133 k) (opI (· ^^^ ·) (I 134 k) (-1))), vi (k : Int), vr 133])) (S' := MS I J cc ss) 3 rfl ?_
    refine ev_iasN (j := k) rfl rfl (by omega) (by omega) ?_
    show Ev X k_X7_takeGroup (176, [some (vr 132), some (vi (sr : Int)), some (vi (sc : Int)), some (vi 0), some (vi gr), some (vi (k : Int)), v6], []) (MS (up2 I 133 k (opI (· &&& ·) (I 133 k) (opI (· ^^^ ·) (I 134 k) (-1)))) J cc ss) _
    refine ev_inc (z := (k : Int) + 1) rfl rfl (by omega) (by omega) (by omega) rfl ?_
    show Ev X k_X7_takeGroup (179, [some (vr 132), some (vi (sr : Int)), some (vi (sc : Int)), some (vi 0), some (vi gr), some (vi ((k : Int) + 1)), v6], []) (MS (up2 I 133 k (opI (· &&& ·) (I 133 k) (opI (· ^^^ ·) (I 134 k) (-1)))) J cc ss) _
    refine ev_n (fr' := (148, [some (vr 132), some (vi (sr : Int)), some (vi (sc : Int)), some (vi 0), some (vi gr), some (vi ((k : Int) + 1)), v6], [])) (S' := MS (up2 I 133 k (opI (· &&& ·) (I 133 k) (opI (· ^^^ ·) (I 134 k) (-1)))) J cc ss) 1 rfl ?_
    exact lp_gone0 X _ _ cc ss sr sc I0 (by rw [up2_row _ _ _ _ (by decide)]; exact hn) hn32 hon hgr (hF := fun a h1 h2 => by rw [up2_row _ _ _ _ h1]; exact hF a h1 h2) (TR.cell (up2_row _ _ _ _ (by decide)) hG) (k + 1) _ _ (by omega) (hO.andnot hG (by omega) rfl)
termination_by 33 - k
decreasing_by all_goals omega
theorem lp_seed0 (X : AX) (I J : Nat → Nat → Int) (cc ss : Nat) {O : B2} {n : Nat} (sr sc : Nat) (I0 : F2) (hn : I 132 2 = (n : Int)) (hn32 : n ≤ 32) (hO : TR I 133 O) (hF : only134 I0 I) (hon : ∀ y x, O y x = true → y < n) (hs : O sr sc = true) (k : Nat) (v5 v6 : Option AV) (hk : k ≤ 32) (hZ : ∀ q, q < k → I 134 q = if q = sr then opI fShl 1 (sc : Int) else 0) : Ev X k_X7_takeGroup (3, [some (vr 132), some (vi (sr : Int)), some (vi (sc : Int)), some (vi 0), some (vi (k : Int)), v5, v6], []) (MS I J cc ss) (PV cc ss none (fun I' J' => J' = J ∧ only33 I0 I' ∧ I' 132 2 = (n : Int) ∧ ∃ G, isGrp O false sr sc G ∧ TR I' 134 G ∧ TR I' 133 (fun y x => O y x && !G y x))) := by
  refine ev_n (fr' := (7, [some (vr 132), some (vi (sr : Int)), some (vi (sc : Int)), some (vi 0), some (vi (k : Int)), v5, v6], [vi 32, vi (k : Int)])) (S' := MS I J cc ss) 2 rfl ?_
  refine ev_ic (c := .ge) (off := 29) rfl (by decide) (fun (g1 : 32 ≤ (k : Int)) => ?_) (fun (g1 : ¬ (32 ≤ (k : Int))) => ?_)
  · show Ev X k_X7_takeGroup (36, [some (vr 132), some (vi (sr : Int)), some (vi (sc : Int)), some (vi 0), some (vi (k : Int)), v5, v6], []) (MS I J cc ss) _
    refine ev_n (fr' := (42, [some (vr 132), some (vi (sr : Int)), some (vi (sc : Int)), some (vi 0), some (vi 1), some (vi 0), v6], [])) (S' := MS I J cc ss) 4 rfl ?_
    have hS0 := hon sr sc hs
    have hs32 := hO.2 sr sc hs
    have hG : TR I 134 (fun y x => decide (y = sr ∧ x = sc)) := by
      refine ⟨fun r hr => ?_, fun y x h => ?_⟩
      · rw [hZ r (by omega)]
        by_cases e : r = sr
        · rw [if_pos e]
          refine ⟨opI_rng _ _ _, fun c hc => ?_⟩
          rw [bt_shl (by omega), bt_one, decide_eq_true hc, Bool.true_and, Bool.eq_iff_iff]
          simp [e]; omega
        · rw [if_neg e]
          exact ⟨⟨by omega, by omega⟩, fun c hc => by rw [bt_zero]; exact (decide_eq_false (fun q => e q.1)).symm⟩
      · have := of_decide_eq_true h; omega
    refine li_sweep0 X _ _ cc ss sr sc I0 hn hn32 hO hF hG ⟨decide_eq_true ⟨rfl, rfl⟩, fun y x h => ?_, fun y x h => ?_⟩ hon 0 1 _ (by omega) (Or.inl ⟨rfl, ?_⟩) (fun I1 G gr v5 v6 hn hO hF hG hgr => ?_)
    · have h9 := of_decide_eq_true h; rw [h9.1, h9.2]; exact hs
    · have h9 := of_decide_eq_true h; rw [h9.1, h9.2]; exact Rch.seed
    · have h9 := cntB_add (G := fun _ _ => false) (y := sr) (x := sc) hs32.1 hs32.2 rfl
      have h8 := cntB_rng (fun _ _ => false)
      have h7 : cntB (fun y x => decide (y = sr ∧ x = sc)) = cntB (fun _ _ => false) + 1 := (cntB_congr (fun y x _ _ => (Bool.false_or _).symm)).trans h9
      omega
    show Ev X k_X7_takeGroup (145, [some (vr 132), some (vi (sr : Int)), some (vi (sc : Int)), some (vi 0), some (vi gr), v5, v6], []) (MS I1 J cc ss) _
    refine ev_n (fr' := (148, [some (vr 132), some (vi (sr : Int)), some (vi (sc : Int)), some (vi 0), some (vi gr), some (vi 0), v6], [])) (S' := MS I1 J cc ss) 2 rfl ?_
    exact lp_gone0 X _ _ cc ss sr sc I0 hn hn32 hon hgr (fun a _ h2 => hF a h2) hG 0 _ _ (by omega) (hO.congr (fun y x => by rw [decide_eq_false (by omega), Bool.false_and]; simp))
  · show Ev X k_X7_takeGroup (10, [some (vr 132), some (vi (sr : Int)), some (vi (sc : Int)), some (vi 0), some (vi (k : Int)), v5, v6], []) (MS I J cc ss) _
    refine ev_n (fr' := (19, [some (vr 132), some (vi (sr : Int)), some (vi (sc : Int)), some (vi 0), some (vi (k : Int)), v5, v6], [vi (sr : Int), vi (k : Int), vi (k : Int), vr 134])) (S' := MS I J cc ss) 5 rfl ?_
    refine ev_ic (c := .ne) (off := 9) rfl (by decide) (fun (g2 : (k : Int) ≠ (sr : Int)) => ?_) (fun (g2 : ¬ ((k : Int) ≠ (sr : Int))) => ?_)
    · show Ev X k_X7_takeGroup (28, [some (vr 132), some (vi (sr : Int)), some (vi (sc : Int)), some (vi 0), some (vi (k : Int)), v5, v6], [vi (k : Int), vr 134]) (MS I J cc ss) _
      refine ev_n (fr' := (29, [some (vr 132), some (vi (sr : Int)), some (vi (sc : Int)), some (vi 0), some (vi (k : Int)), v5, v6], [vi 0, vi (k : Int), vr 134])) (S' := MS I J cc ss) 1 rfl ?_
      refine ev_iasN (j := k) rfl rfl (by omega) (by omega) ?_
      show Ev X k_X7_takeGroup (30, [some (vr 132), some (vi (sr : Int)), some (vi (sc : Int)), some (vi 0), some (vi (k : Int)), v5, v6], []) (MS (up2 I 134 k 0) J cc ss) _
      refine ev_inc (z := (k : Int) + 1) rfl rfl (by omega) (by omega) (by omega) rfl ?_
      show Ev X k_X7_takeGroup (33, [some (vr 132), some (vi (sr : Int)), some (vi (sc : Int)), some (vi 0), some (vi ((k : Int) + 1)), v5, v6], []) (MS (up2 I 134 k 0) J cc ss) _
      refine ev_n (fr' := (3, [some (vr 132), some (vi (sr : Int)), some (vi (sc : Int)), some (vi 0), some (vi ((k : Int) + 1)), v5, v6], [])) (S' := MS (up2 I 134 k 0) J cc ss) 1 rfl ?_
      exact lp_seed0 X _ _ cc ss sr sc I0 (by rw [up2_row _ _ _ _ (by decide)]; exact hn) hn32 (TR.cell (up2_row _ _ _ _ (by decide)) hO) (fun a ha => by rw [up2_row _ _ _ _ ha]; exact hF a ha) hon hs (k + 1) _ _ (by omega) (fun q hq => by
        by_cases e : q = k
        · rw [e, up2_same]; first | rw [if_pos (by omega)] | rw [if_neg (by omega)]
        · rw [up2_ne2 _ _ _ _ e]; exact hZ q (by omega))
    · show Ev X k_X7_takeGroup (22, [some (vr 132), some (vi (sr : Int)), some (vi (sc : Int)), some (vi 0), some (vi (k : Int)), v5, v6], [vi (k : Int), vr 134]) (MS I J cc ss) _
      refine ev_n (fr' := (29, [some (vr 132), some (vi (sr : Int)), some (vi (sc : Int)), some (vi 0), some (vi (k : Int)), v5, v6], [vi (opI fShl 1 (sc : Int)), vi (k : Int), vr 134])) (S' := MS I J cc ss) 4 rfl ?_
      refine ev_iasN (j := k) rfl rfl (by omega) (by omega) ?_
      show Ev X k_X7_takeGroup (30, [some (vr 132), some (vi (sr : Int)), some (vi (sc : Int)), some (vi 0), some (vi (k : Int)), v5, v6], []) (MS (up2 I 134 k (opI fShl 1 (sc : Int))) J cc ss) _
      refine ev_inc (z := (k : Int) + 1) rfl rfl (by omega) (by omega) (by omega) rfl ?_
      show Ev X k_X7_takeGroup (33, [some (vr 132), some (vi (sr : Int)), some (vi (sc : Int)), some (vi 0), some (vi ((k : Int) + 1)), v5, v6], []) (MS (up2 I 134 k (opI fShl 1 (sc : Int))) J cc ss) _
      refine ev_n (fr' := (3, [some (vr 132), some (vi (sr : Int)), some (vi (sc : Int)), some (vi 0), some (vi ((k : Int) + 1)), v5, v6], [])) (S' := MS (up2 I 134 k (opI fShl 1 (sc : Int))) J cc ss) 1 rfl ?_
      exact lp_seed0 X _ _ cc ss sr sc I0 (by rw [up2_row _ _ _ _ (by decide)]; exact hn) hn32 (TR.cell (up2_row _ _ _ _ (by decide)) hO) (fun a ha => by rw [up2_row _ _ _ _ ha]; exact hF a ha) hon hs (k + 1) _ _ (by omega) (fun q hq => by
        by_cases e : q = k
        · rw [e, up2_same]; first | rw [if_pos (by omega)] | rw [if_neg (by omega)]
        · rw [up2_ne2 _ _ _ _ e]; exact hZ q (by omega))
termination_by 32 - k
decreasing_by all_goals omega
theorem sp_takeGroup0 (X : AX) (I J : Nat → Nat → Int) (cc ss : Nat) {O : B2} {n : Nat} (sr sc : Nat) (hn : I 132 2 = (n : Int)) (hn32 : n ≤ 32) (hO : TR I 133 O) (hon : ∀ y x, O y x = true → y < n) (hs : O sr sc = true) : Ev X k_X7_takeGroup (0, [some (vr 132), some (vi (sr : Int)), some (vi (sc : Int)), some (vi 0), none, none, none], []) (MS I J cc ss) (PV cc ss none (fun I' J' => J' = J ∧ only33 I I' ∧ I' 132 2 = (n : Int) ∧ ∃ G, isGrp O false sr sc G ∧ TR I' 134 G ∧ TR I' 133 (fun y x => O y x && !G y x))) := by
  refine ev_n (fr' := (3, [some (vr 132), some (vi (sr : Int)), some (vi (sc : Int)), some (vi 0), some (vi 0), none, none], [])) (S' := MS I J cc ss) 2 rfl ?_
  exact lp_seed0 X _ _ cc ss sr sc I hn hn32 hO (fun _ _ => rfl) hon hs 0 _ _ (by omega) (fun q h => absurd h (by omega))
