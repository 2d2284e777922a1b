/-! A ROW GROWS (printed by gen/g44.py) -/
/-- rows of bits at cell a -/
def TR (I : F2) (a : Nat) (G : B2) : Prop := (∀ r, r < 32 → in32 (I a r) ∧ ∀ c, c < 32 → bt (I a r) c = G r c) ∧ ∀ y x, G y x = true → y < 32 ∧ x < 32
def bsB (G : B2) (k c : Nat) : Bool := (decide (0 < k) && G (k - 1) c) || G (k + 1) c
/-- b's neighbours to the left and right -/
def sdB (b : Nat → Bool) (c : Nat) : Bool := b c || (decide (0 < c) && b (c - 1)) || b (c + 1)
def r0B (O G : B2) (dg : Bool) (k c : Nat) : Bool := (G k c || (if dg = true then sdB (bsB G k) c else bsB G k c)) && O k c
def GrowP (O : B2) (dg : Bool) (k : Nat) (G G' : B2) (z : Int) : Prop := (∀ y x, G y x = true → G' y x = true) ∧ (∀ y x, G' y x = true → O y x = true) ∧ (∀ sy sx, (∀ y x, G y x = true → Rch O dg sy sx y x) → ∀ y x, G' y x = true → Rch O dg sy sx y x) ∧
  ((z = 0 ∧ (∀ y x, G' y x = G y x) ∧ ∀ y x x', G y x = true → nbr dg y x k x' → O k x' = true → G k x' = true) ∨ (z = 1 ∧ ∃ x, x < 32 ∧ G k x = false ∧ G' k x = true))
theorem bsB_in {O G : B2} {dg : Bool} {k c sy sx : Nat} (hR : ∀ y x, G y x = true → Rch O dg sy sx y x) (h : bsB G k c = true) (ho : O k c = true) : Rch O dg sy sx k c := by
  unfold bsB at h
  rw [Bool.or_eq_true, Bool.and_eq_true, decide_eq_true_eq] at h
  rcases h with ⟨h1, h2⟩ | h2
  · exact (hR _ _ h2).step ⟨by omega, by omega, by omega, by omega, Or.inr (Or.inr rfl)⟩ ho
  · exact (hR _ _ h2).step ⟨by omega, by omega, by omega, by omega, Or.inr (Or.inr rfl)⟩ ho
theorem r0B_in {O G : B2} {dg : Bool} {k c sy sx : Nat} (hR : ∀ y x, G y x = true → Rch O dg sy sx y x) (h : r0B O G dg k c = true) : Rch O dg sy sx k c := by
  unfold r0B at h
  rw [Bool.and_eq_true, Bool.or_eq_true] at h
  obtain ⟨h | h, ho⟩ := h
  · exact hR _ _ h
  · cases dg with
    | false => exact bsB_in hR (by simpa using h) ho
    | true =>
      simp only [if_true] at h
      unfold sdB at h
      rw [Bool.or_eq_true, Bool.or_eq_true, Bool.and_eq_true, decide_eq_true_eq] at h
      rcases h with (h | ⟨h1, h⟩) | h
      · exact bsB_in hR h ho
      · unfold bsB at h
        rw [Bool.or_eq_true, Bool.and_eq_true, decide_eq_true_eq] at h
        rcases h with ⟨h1, h2⟩ | h2 <;> exact (hR _ _ h2).step ⟨by omega, by omega, by omega, by omega, Or.inl rfl⟩ ho
      · unfold bsB at h
        rw [Bool.or_eq_true, Bool.and_eq_true, decide_eq_true_eq] at h
        rcases h with ⟨h1, h2⟩ | h2 <;> exact (hR _ _ h2).step ⟨by omega, by omega, by omega, by omega, Or.inl rfl⟩ ho
/-- what the end of a row's growth says -/
theorem grow_end {O G : B2} {dg : Bool} {k : Nat} {rB : Nat → Bool} {step : Nat} (hGO : ∀ y x, G y x = true → O y x = true) (hG32 : ∀ y x, G y x = true → y < 32 ∧ x < 32) (hO32 : ∀ y x, O y x = true → y < 32 ∧ x < 32)
    (i0 : ∀ c, rB c = true → c < 32) (i1 : ∀ c, c < 32 → r0B O G dg k c = true → rB c = true) (i2 : ∀ c, rB c = true → O k c = true)
    (i3 : ∀ sy sx, (∀ y x, G y x = true → Rch O dg sy sx y x) → ∀ c, rB c = true → Rch O dg sy sx k c)
    (i4 : (step = 0 ∧ ∀ c, c < 32 → rB c = r0B O G dg k c) ∨ ∃ c, c < 32 ∧ r0B O G dg k c = false ∧ rB c = true)
    (i5 : (∀ c, c < 32 → (sdB rB c && O k c) = rB c) ∨ step = 32) {z : Int}
    (hz : (z = 0 ∧ ∀ c, c < 32 → rB c = G k c) ∨ (z = 1 ∧ ∃ c, c < 32 ∧ G k c = false ∧ rB c = true)) :
    GrowP O dg k G (fun y x => if y = k then rB x else G y x) z := by
  have hg0 : ∀ c, G k c = true → r0B O G dg k c = true := fun c h => by unfold r0B; rw [h, hGO _ _ h]; rfl
  refine ⟨fun y x h => ?_, fun y x h => ?_, fun sy sx hR y x h => ?_, ?_⟩
  · show (if y = k then rB x else G y x) = true
    by_cases e : y = k
    · subst e; rw [if_pos rfl]; exact i1 x (hG32 _ _ h).2 (hg0 x h)
    · rw [if_neg e]; exact h
  · have h : (if y = k then rB x else G y x) = true := h
    by_cases e : y = k
    · subst e; rw [if_pos rfl] at h; exact i2 x h
    · rw [if_neg e] at h; exact hGO _ _ h
  · have h : (if y = k then rB x else G y x) = true := h
    by_cases e : y = k
    · subst e; rw [if_pos rfl] at h; exact i3 sy sx hR x h
    · rw [if_neg e] at h; exact hR _ _ h
  · rcases hz with ⟨h1, h2⟩ | ⟨h1, c, h2, h3, h4⟩
    · refine Or.inl ⟨h1, fun y x => ?_, fun y x x' hy hn ho => ?_⟩
      · show (if y = k then rB x else G y x) = G y x
        by_cases e : y = k
        · subst e
          rw [if_pos rfl]
          rcases Nat.lt_or_ge x 32 with hx | hx
          · exact h2 x hx
          · rw [Bool.eq_iff_iff]; exact ⟨fun q => absurd (i0 x q) (by omega), fun q => absurd (hG32 _ _ q).2 (by omega)⟩
        · rw [if_neg e]
      · have hs : step = 0 ∧ ∀ c, c < 32 → rB c = r0B O G dg k c := by
          rcases i4 with h | ⟨c, hc, q1, q2⟩
          · exact h
          · rw [h2 c hc] at q2; rw [hg0 c q2] at q1; cases q1
        have hw : ∀ c, c < 32 → (sdB rB c && O k c) = rB c := by
          rcases i5 with h | h
          · exact h
          · exact absurd h (by omega)
        obtain ⟨n1, n2, n3, n4, n5⟩ := hn
        by_cases hx' : x' < 32
        · by_cases e : y = k
          · subst e
            rw [← h2 x' hx', ← hw x' hx', ho, Bool.and_true]
            have hx : rB x = true := by rw [h2 x (hG32 _ _ hy).2]; exact hy
            unfold sdB
            rcases (show x' = x ∨ x' = x + 1 ∨ x = x' + 1 by omega) with q | q | q
            · rw [q, hx]; rfl
            · rw [show x' - 1 = x by omega, hx, decide_eq_true (by omega)]; simp
            · rw [← q, hx]; simp
          · rw [← h2 x' hx', hs.2 x' hx']
            unfold r0B
            rw [ho, Bool.and_true, Bool.or_eq_true]
            right
            have hb : ∀ c, c = x → bsB G k c = true := by
              rintro c rfl
              unfold bsB
              rcases (show k = y + 1 ∨ y = k + 1 by omega) with q | q
              · rw [decide_eq_true (by omega), show k - 1 = y by omega, hy]; rfl
              · rw [← q, hy]; simp
            cases dg with
            | false =>
              have : x = x' := by rcases n5 with q | q | q; cases q; exact absurd q e; exact q
              simp only [Bool.false_eq_true, if_false]
              exact hb x' this.symm
            | true =>
              simp only [if_true]
              unfold sdB
              rcases (show x' = x ∨ x' = x + 1 ∨ x = x' + 1 by omega) with q | q | q
              · rw [hb x' q]; rfl
              · rw [hb (x' - 1) (by omega), decide_eq_true (by omega)]; simp
              · rw [hb (x' + 1) q.symm]; simp
        · exact absurd (hO32 _ _ ho).2 hx'
    · refine Or.inr ⟨h1, c, h2, h3, ?_⟩
      show (if k = k then rB c else G k c) = true
      rw [if_pos rfl]; exact h4
theorem bt_shl1 (x : Int) (c : Nat) (hc : c < 32) : bt (opI fShl x 1) c = (decide (0 < c) && bt x (c - 1)) := by
  have := bt_shl (n := 1) (by omega) x c
  rw [show ((1 : Nat) : Int) = 1 from rfl] at this
  rw [this, decide_eq_true hc, Bool.true_and]
  congr 1
  rw [Bool.eq_iff_iff]; simp; omega
theorem bt_ush1 (x : Int) (c : Nat) : bt (opI fUsh x 1) c = bt x (c + 1) := by
  have := bt_ush (n := 1) (by omega) x c
  rw [show ((1 : Nat) : Int) = 1 from rfl] at this
  rw [this, Nat.add_comm]
theorem bt_sd (r : Int) (c : Nat) (hc : c < 32) : bt (opI (· ||| ·) (opI (· ||| ·) r (opI fShl r 1)) (opI fUsh r 1)) c = sdB (bt r) c := by
  rw [bt_or, bt_or, bt_shl1 r c hc, bt_ush1]; rfl
theorem ne_bit {r r' : Int} (hr : in32 r) (hr' : in32 r') (hs : ∀ c, c < 32 → bt r c = true → bt r' c = true) (hne : r' ≠ r) : ∃ c, c < 32 ∧ bt r c = false ∧ bt r' c = true := by
  refine Classical.byContradiction (fun h => hne (bt_ext hr' hr (fun c hc => ?_)))
  rw [Bool.eq_iff_iff]
  refine ⟨fun q => ?_, hs c hc⟩
  cases e : bt r c with
  | true => rfl
  | false => exact absurd ⟨c, hc, e, q⟩ h
def GrI (O G : B2) (dg : Bool) (k : Nat) (r : Int) (step : Nat) : Prop := in32 r ∧ (∀ c, c < 32 → r0B O G dg k c = true → bt r c = true) ∧ (∀ c, bt r c = true → O k c = true) ∧ (∀ sy sx, (∀ y x, G y x = true → Rch O dg sy sx y x) → ∀ c, bt r c = true → Rch O dg sy sx k c) ∧ ((step = 0 ∧ ∀ c, c < 32 → bt r c = r0B O G dg k c) ∨ ∃ c, c < 32 ∧ r0B O G dg k c = false ∧ bt r c = true)
theorem lt32_of_bt {r : Int} {c : Nat} (h : bt r c = true) : c < 32 := by
  rcases Nat.lt_or_ge c 32 with q | q
  · exact q
  · rw [bt_big r q] at h; cases h
theorem GrI.next {O G : B2} {dg : Bool} {k : Nat} {r r' : Int} {step : Nat} (h : GrI O G dg k r step) (hr' : in32 r') (hb : ∀ c, c < 32 → bt r' c = (sdB (bt r) c && O k c)) (hne : r' ≠ r) : GrI O G dg k r' (step + 1) := by
  obtain ⟨h0, h1, h2, h3, h4⟩ := h
  have hs : ∀ c, c < 32 → bt r c = true → bt r' c = true := fun c hc q => by
    rw [hb c hc, h2 c q, Bool.and_true]; unfold sdB; rw [q]; rfl
  refine ⟨hr', fun c hc q => hs c hc (h1 c hc q), fun c q => ?_, fun sy sx hR c q => ?_, Or.inr ?_⟩
  · rw [hb c (lt32_of_bt q), Bool.and_eq_true] at q; exact q.2
  · rw [hb c (lt32_of_bt q), Bool.and_eq_true] at q
    obtain ⟨q, ho⟩ := q
    unfold sdB at q
    rw [Bool.or_eq_true, Bool.or_eq_true, Bool.and_eq_true, decide_eq_true_eq] at q
    rcases q with (q | ⟨q1, q⟩) | q
    · exact h3 sy sx hR c q
    · exact (h3 sy sx hR _ q).step ⟨by omega, by omega, by omega, by omega, Or.inr (Or.inl rfl)⟩ ho
    · exact (h3 sy sx hR _ q).step ⟨by omega, by omega, by omega, by omega, Or.inr (Or.inl rfl)⟩ ho
  · obtain ⟨c, hc, q1, q2⟩ := ne_bit h0 hr' hs hne
    refine ⟨c, hc, ?_, q2⟩
    rw [← Bool.not_eq_true]; intro q; rw [h1 c hc q] at q1; cases q1
theorem TR.upd {I : F2} {G : B2} {k : Nat} {r : Int} (hG : TR I 134 G) (hk : k < 32) (hr : in32 r) : TR (up2 I 134 k r) 134 (fun y x => if y = k then bt r x else G y x) := by
  refine ⟨fun q hq => ?_, fun y x h => ?_⟩
  · by_cases e : q = k
    · subst e; rw [up2_same]; refine ⟨hr, fun c hc => ?_⟩; show _ = if q = q then bt r c else G q c; rw [if_pos rfl]
    · rw [up2_ne2 _ _ _ _ e]
      refine ⟨(hG.1 q hq).1, fun c hc => ?_⟩
      show _ = if q = k then bt r c else G q c; rw [if_neg e]; exact (hG.1 q hq).2 c hc
  · have h : (if y = k then bt r x else G y x) = true := h
    by_cases e : y = k
    · rw [if_pos e] at h; exact ⟨by omega, lt32_of_bt h⟩
    · rw [if_neg e] at h; exact hG.2 _ _ h
def only134 (I I' : F2) : Prop := ∀ a, a ≠ 134 → I' a = I a
/-- the end of growRow, for the row's value -/
theorem grow_fin {I : F2} {O G : B2} {dg : Bool} {k : Nat} {r : Int} {step : Nat} (hO : TR I 133 O) (hG : TR I 134 G) (hGO : ∀ y x, G y x = true → O y x = true) (hk : k < 32) (h : GrI O G dg k r step) (i5 : (∀ c, c < 32 → (sdB (bt r) c && O k c) = bt r c) ∨ step = 32) {z : Int} (hz : (z = 0 ∧ r = I 134 k) ∨ (z = 1 ∧ r ≠ I 134 k)) : GrowP O dg k G (fun y x => if y = k then bt r x else G y x) z := by
  obtain ⟨h0, h1, h2, h3, h4⟩ := h
  refine grow_end hGO hG.2 hO.2 (fun c => lt32_of_bt) h1 h2 h3 h4 i5 ?_
  rcases hz with ⟨e, q⟩ | ⟨e, q⟩
  · exact Or.inl ⟨e, fun c hc => by rw [q]; exact (hG.1 k hk).2 c hc⟩
  · refine Or.inr ⟨e, ?_⟩
    obtain ⟨c, hc, q1, q2⟩ := ne_bit (r := I 134 k) (hG.1 k hk).1 h0 (fun c hc q3 => h1 c hc (by
      rw [(hG.1 k hk).2 c hc] at q3
      unfold r0B; rw [q3, hGO _ _ q3]; rfl)) q
    exact ⟨c, hc, by rw [← (hG.1 k hk).2 c hc]; exact q1, q2⟩
theorem lp_grow1 (X : AX) (I J : Nat → Nat → Int) (cc ss : Nat) {O G : B2} (k : Nat) (hO : TR I 133 O) (hG : TR I 134 G) (hGO : ∀ y x, G y x = true → O y x = true) (hk : k < 32) (bs : Int) (st : Nat) (r : Int) (v6 : Option AV) (hst : st ≤ 32) (hr : GrI O G true k r st) : Ev X k_X7_growRow (80, [some (vr 132), some (vi (k : Int)), some (vi 1), some (vi r), some (vi bs), some (vi (st : Int)), v6], []) (MS I J cc ss) (PZ cc ss (fun z I' J' => J' = J ∧ only134 I I' ∧ ∃ G', TR I' 134 G' ∧ GrowP O true k G G' z)) := by
  refine ev_n (fr' := (84, [some (vr 132), some (vi (k : Int)), some (vi 1), some (vi r), some (vi bs), some (vi (st : Int)), v6], [vi 32, vi (st : Int)])) (S' := MS I J cc ss) 2 rfl ?_
  refine ev_ic (c := .ge) (off := 39) rfl (by decide) (fun (g1 : 32 ≤ (st : Int)) => ?_) (fun (g1 : ¬ (32 ≤ (st : Int))) => ?_)
  · show Ev X k_X7_growRow (123, [some (vr 132), some (vi (k : Int)), some (vi 1), some (vi r), some (vi bs), some (vi (st : Int)), v6], []) (MS I J cc ss) _
    have i5 : (∀ c, c < 32 → (sdB (bt r) c && O k c) = bt r c) ∨ st = 32 := Or.inr (by omega)
    refine ev_n (fr' := (129, [some (vr 132), some (vi (k : Int)), some (vi 1), some (vi r), some (vi bs), some (vi (st : Int)), v6], [vi (k : Int), vr 134, vi r])) (S' := MS I J cc ss) 4 rfl ?_
    refine ev_iaN (j := k) (z := (I 134 k)) rfl rfl (by omega) (by omega) (rfl) ?_
    show Ev X k_X7_growRow (130, [some (vr 132), some (vi (k : Int)), some (vi 1), some (vi r), some (vi bs), some (vi (st : Int)), v6], [vi (I 134 k), vi r]) (MS I J cc ss) _
    refine ev_ic (c := .eq) (off := 7) rfl (by decide) (fun (g2 : r = (I 134 k)) => ?_) (fun (g2 : ¬ (r = (I 134 k))) => ?_)
    · show Ev X k_X7_growRow (137, [some (vr 132), some (vi (k : Int)), some (vi 1), some (vi r), some (vi bs), some (vi (st : Int)), v6], []) (MS I J cc ss) _
      refine ev_n (fr' := (146, [some (vr 132), some (vi (k : Int)), some (vi 1), some (vi r), some (vi bs), some (vi 0), v6], [vi r, vi (k : Int), vr 134])) (S' := MS I J cc ss) 6 rfl ?_
      refine ev_iasN (j := k) rfl rfl (by omega) (by omega) ?_
      show Ev X k_X7_growRow (147, [some (vr 132), some (vi (k : Int)), some (vi 1), some (vi r), some (vi bs), some (vi 0), v6], []) (MS (up2 I 134 k r) J cc ss) _
      refine ev_n (fr' := (149, [some (vr 132), some (vi (k : Int)), some (vi 1), some (vi r), some (vi bs), some (vi 0), v6], [vi 0])) (S' := MS (up2 I 134 k r) J cc ss) 1 rfl ?_
      refine ev_r rfl rfl rfl ?_
      exact ⟨_, _, _, rfl, rfl, rfl, fun a ha => up2_row _ _ _ _ ha, _, hG.upd hk hr.1, grow_fin hO hG hGO hk hr i5 (by first | exact Or.inl ⟨rfl, by assumption⟩ | exact Or.inr ⟨rfl, by assumption⟩)⟩
    · show Ev X k_X7_growRow (133, [some (vr 132), some (vi (k : Int)), some (vi 1), some (vi r), some (vi bs), some (vi (st : Int)), v6], []) (MS I J cc ss) _
      refine ev_n (fr' := (146, [some (vr 132), some (vi (k : Int)), some (vi 1), some (vi r), some (vi bs), some (vi 1), v6], [vi r, vi (k : Int), vr 134])) (S' := MS I J cc ss) 7 rfl ?_
      refine ev_iasN (j := k) rfl rfl (by omega) (by omega) ?_
      show Ev X k_X7_growRow (147, [some (vr 132), some (vi (k : Int)), some (vi 1), some (vi r), some (vi bs), some (vi 1), v6], []) (MS (up2 I 134 k r) J cc ss) _
      refine ev_n (fr' := (149, [some (vr 132), some (vi (k : Int)), some (vi 1), some (vi r), some (vi bs), some (vi 1), v6], [vi 1])) (S' := MS (up2 I 134 k r) J cc ss) 1 rfl ?_
      refine ev_r rfl rfl rfl ?_
      exact ⟨_, _, _, rfl, rfl, rfl, fun a ha => up2_row _ _ _ _ ha, _, hG.upd hk hr.1, grow_fin hO hG hGO hk hr i5 (by first | exact Or.inl ⟨rfl, by assumption⟩ | exact Or.inr ⟨rfl, by assumption⟩)⟩
  · show Ev X k_X7_growRow (87, [some (vr 132), some (vi (k : Int)), some (vi 1), some (vi r), some (vi bs), some (vi (st : Int)), v6], []) (MS I J cc ss) _
    refine ev_n (fr' := (101, [some (vr 132), some (vi (k : Int)), some (vi 1), some (vi r), some (vi bs), some (vi (st : Int)), v6], [vi (k : Int), vr 133, vi (opI (· ||| ·) (opI (· ||| ·) r (opI fShl r 1)) (opI fUsh r 1))])) (S' := MS I J cc ss) 12 rfl ?_
    refine ev_iaN (j := k) (z := (I 133 k)) rfl rfl (by omega) (by omega) (rfl) ?_
    show Ev X k_X7_growRow (102, [some (vr 132), some (vi (k : Int)), some (vi 1), some (vi r), some (vi bs), some (vi (st : Int)), v6], [vi (I 133 k), vi (opI (· ||| ·) (opI (· ||| ·) r (opI fShl r 1)) (opI fUsh r 1))]) (MS I J cc ss) _
    refine ev_n (fr' := (108, [some (vr 132), some (vi (k : Int)), some (vi 1), some (vi r), some (vi bs), some (vi (st : Int)), some (vi (opI (· &&& ·) (opI (· ||| ·) (opI (· ||| ·) r (opI fShl r 1)) (opI fUsh r 1)) (I 133 k)))], [vi r, vi (opI (· &&& ·) (opI (· ||| ·) (opI (· ||| ·) r (opI fShl r 1)) (opI fUsh r 1)) (I 133 k))])) (S' := MS I J cc ss) 4 rfl ?_
    refine ev_ic (c := .ne) (off := 6) rfl (by decide) (fun (g3 : (opI (· &&& ·) (opI (· ||| ·) (opI (· ||| ·) r (opI fShl r 1)) (opI fUsh r 1)) (I 133 k)) ≠ r) => ?_) (fun (g3 : ¬ ((opI (· &&& ·) (opI (· ||| ·) (opI (· ||| ·) r (opI fShl r 1)) (opI fUsh r 1)) (I 133 k)) ≠ r)) => ?_)
    · show Ev X k_X7_growRow (114, [some (vr 132), some (vi (k : Int)), some (vi 1), some (vi r), some (vi bs), some (vi (st : Int)), some (vi (opI (· &&& ·) (opI (· ||| ·) (opI (· ||| ·) r (opI fShl r 1)) (opI fUsh r 1)) (I 133 k)))], []) (MS I J cc ss) _
      refine ev_n (fr' := (117, [some (vr 132), some (vi (k : Int)), some (vi 1), some (vi (opI (· &&& ·) (opI (· ||| ·) (opI (· ||| ·) r (opI fShl r 1)) (opI fUsh r 1)) (I 133 k))), some (vi bs), some (vi (st : Int)), some (vi (opI (· &&& ·) (opI (· ||| ·) (opI (· ||| ·) r (opI fShl r 1)) (opI fUsh r 1)) (I 133 k)))], [])) (S' := MS I J cc ss) 2 rfl ?_
      refine ev_inc (z := (st : Int) + 1) rfl rfl (by omega) (by omega) (by omega) rfl ?_
      show Ev X k_X7_growRow (120, [some (vr 132), some (vi (k : Int)), some (vi 1), some (vi (opI (· &&& ·) (opI (· ||| ·) (opI (· ||| ·) r (opI fShl r 1)) (opI fUsh r 1)) (I 133 k))), some (vi bs), some (vi ((st : Int) + 1)), some (vi (opI (· &&& ·) (opI (· ||| ·) (opI (· ||| ·) r (opI fShl r 1)) (opI fUsh r 1)) (I 133 k)))], []) (MS I J cc ss) _
      refine ev_n (fr' := (80, [some (vr 132), some (vi (k : Int)), some (vi 1), some (vi (opI (· &&& ·) (opI (· ||| ·) (opI (· ||| ·) r (opI fShl r 1)) (opI fUsh r 1)) (I 133 k))), some (vi bs), some (vi ((st : Int) + 1)), some (vi (opI (· &&& ·) (opI (· ||| ·) (opI (· ||| ·) r (opI fShl r 1)) (opI fUsh r 1)) (I 133 k)))], [])) (S' := MS I J cc ss) 1 rfl ?_
      exact lp_grow1 X _ _ cc ss k hO hG hGO hk bs (st + 1) _ _ (by omega) (hr.next (opI_rng _ _ _) (fun c hc => by rw [bt_and, bt_sd r c hc, (hO.1 k hk).2 c hc]) g3)
    · show Ev X k_X7_growRow (111, [some (vr 132), some (vi (k : Int)), some (vi 1), some (vi r), some (vi bs), some (vi (st : Int)), some (vi (opI (· &&& ·) (opI (· ||| ·) (opI (· ||| ·) r (opI fShl r 1)) (opI fUsh r 1)) (I 133 k)))], []) (MS I J cc ss) _
      refine ev_n (fr' := (123, [some (vr 132), some (vi (k : Int)), some (vi 1), some (vi r), some (vi bs), some (vi (st : Int)), some (vi (opI (· &&& ·) (opI (· ||| ·) (opI (· ||| ·) r (opI fShl r 1)) (opI fUsh r 1)) (I 133 k)))], [])) (S' := MS I J cc ss) 1 rfl ?_
      have i5 : (∀ c, c < 32 → (sdB (bt r) c && O k c) = bt r c) ∨ st = 32 := Or.inl (fun c hc => by
        rw [← bt_sd r c hc, ← (hO.1 k hk).2 c hc, ← bt_and, Decidable.of_not_not g3])
      refine ev_n (fr' := (129, [some (vr 132), some (vi (k : Int)), some (vi 1), some (vi r), some (vi bs), some (vi (st : Int)), some (vi (opI (· &&& ·) (opI (· ||| ·) (opI (· ||| ·) r (opI fShl r 1)) (opI fUsh r 1)) (I 133 k)))], [vi (k : Int), vr 134, vi r])) (S' := MS I J cc ss) 4 rfl ?_
      refine ev_iaN (j := k) (z := (I 134 k)) rfl rfl (by omega) (by omega) (rfl) ?_
      show Ev X k_X7_growRow (130, [some (vr 132), some (vi (k : Int)), some (vi 1), some (vi r), some (vi bs), some (vi (st : Int)), some (vi (opI (· &&& ·) (opI (· ||| ·) (opI (· ||| ·) r (opI fShl r 1)) (opI fUsh r 1)) (I 133 k)))], [vi (I 134 k), vi r]) (MS I J cc ss) _
      refine ev_ic (c := .eq) (off := 7) rfl (by decide) (fun (g4 : r = (I 134 k)) => ?_) (fun (g4 : ¬ (r = (I 134 k))) => ?_)
      · show Ev X k_X7_growRow (137, [some (vr 132), some (vi (k : Int)), some (vi 1), some (vi r), some (vi bs), some (vi (st : Int)), some (vi (opI (· &&& ·) (opI (· ||| ·) (opI (· ||| ·) r (opI fShl r 1)) (opI fUsh r 1)) (I 133 k)))], []) (MS I J cc ss) _
        refine ev_n (fr' := (146, [some (vr 132), some (vi (k : Int)), some (vi 1), some (vi r), some (vi bs), some (vi 0), some (vi (opI (· &&& ·) (opI (· ||| ·) (opI (· ||| ·) r (opI fShl r 1)) (opI fUsh r 1)) (I 133 k)))], [vi r, vi (k : Int), vr 134])) (S' := MS I J cc ss) 6 rfl ?_
        refine ev_iasN (j := k) rfl rfl (by omega) (by omega) ?_
        show Ev X k_X7_growRow (147, [some (vr 132), some (vi (k : Int)), some (vi 1), some (vi r), some (vi bs), some (vi 0), some (vi (opI (· &&& ·) (opI (· ||| ·) (opI (· ||| ·) r (opI fShl r 1)) (opI fUsh r 1)) (I 133 k)))], []) (MS (up2 I 134 k r) J cc ss) _
        refine ev_n (fr' := (149, [some (vr 132), some (vi (k : Int)), some (vi 1), some (vi r), some (vi bs), some (vi 0), some (vi (opI (· &&& ·) (opI (· ||| ·) (opI (· ||| ·) r (opI fShl r 1)) (opI fUsh r 1)) (I 133 k)))], [vi 0])) (S' := MS (up2 I 134 k r) J cc ss) 1 rfl ?_
        refine ev_r rfl rfl rfl ?_
        exact ⟨_, _, _, rfl, rfl, rfl, fun a ha => up2_row _ _ _ _ ha, _, hG.upd hk hr.1, grow_fin hO hG hGO hk hr i5 (by first | exact Or.inl ⟨rfl, by assumption⟩ | exact Or.inr ⟨rfl, by assumption⟩)⟩
      · show Ev X k_X7_growRow (133, [some (vr 132), some (vi (k : Int)), some (vi 1), some (vi r), some (vi bs), some (vi (st : Int)), some (vi (opI (· &&& ·) (opI (· ||| ·) (opI (· ||| ·) r (opI fShl r 1)) (opI fUsh r 1)) (I 133 k)))], []) (MS I J cc ss) _
        refine ev_n (fr' := (146, [some (vr 132), some (vi (k : Int)), some (vi 1), some (vi r), some (vi bs), some (vi 1), some (vi (opI (· &&& ·) (opI (· ||| ·) (opI (· ||| ·) r (opI fShl r 1)) (opI fUsh r 1)) (I 133 k)))], [vi r, vi (k : Int), vr 134])) (S' := MS I J cc ss) 7 rfl ?_
        refine ev_iasN (j := k) rfl rfl (by omega) (by omega) ?_
        show Ev X k_X7_growRow (147, [some (vr 132), some (vi (k : Int)), some (vi 1), some (vi r), some (vi bs), some (vi 1), some (vi (opI (· &&& ·) (opI (· ||| ·) (opI (· ||| ·) r (opI fShl r 1)) (opI fUsh r 1)) (I 133 k)))], []) (MS (up2 I 134 k r) J cc ss) _
        refine ev_n (fr' := (149, [some (vr 132), some (vi (k : Int)), some (vi 1), some (vi r), some (vi bs), some (vi 1), some (vi (opI (· &&& ·) (opI (· ||| ·) (opI (· ||| ·) r (opI fShl r 1)) (opI fUsh r 1)) (I 133 k)))], [vi 1])) (S' := MS (up2 I 134 k r) J cc ss) 1 rfl ?_
        refine ev_r rfl rfl rfl ?_
        exact ⟨_, _, _, rfl, rfl, rfl, fun a ha => up2_row _ _ _ _ ha, _, hG.upd hk hr.1, grow_fin hO hG hGO hk hr i5 (by first | exact Or.inl ⟨rfl, by assumption⟩ | exact Or.inr ⟨rfl, by assumption⟩)⟩
termination_by 32 - st
decreasing_by all_goals omega
theorem gr44_1 (X : AX) (I J : Nat → Nat → Int) (cc ss : Nat) {O G : B2} (k : Nat) (hO : TR I 133 O) (hG : TR I 134 G) (hGO : ∀ y x, G y x = true → O y x = true) (hk : k < 32) (bs : Int) (v5 v6 : Option AV) (hbs : ∀ c, bt bs c = bsB G k c) : Ev X k_X7_growRow (44, [some (vr 132), some (vi (k : Int)), some (vi 1), some (vi (I 134 k)), some (vi bs), v5, v6], []) (MS I J cc ss) (PZ cc ss (fun z I' J' => J' = J ∧ only134 I I' ∧ ∃ G', TR I' 134 G' ∧ GrowP O true k G G' z)) := by
  refine ev_n (fr' := (61, [some (vr 132), some (vi (k : Int)), some (vi 1), some (vi (I 134 k)), some (vi bs), v5, v6], [vi (opI (· ||| ·) (opI (· ||| ·) bs (opI fShl bs 1)) (opI fUsh bs 1)), vi (I 134 k)])) (S' := MS I J cc ss) 12 rfl ?_
  refine ev_n (fr' := (74, [some (vr 132), some (vi (k : Int)), some (vi 1), some (vi (opI (· ||| ·) (I 134 k) (opI (· ||| ·) (opI (· ||| ·) bs (opI fShl bs 1)) (opI fUsh bs 1)))), some (vi bs), v5, v6], [vi (k : Int), vr 133, vi (opI (· ||| ·) (I 134 k) (opI (· ||| ·) (opI (· ||| ·) bs (opI fShl bs 1)) (opI fUsh bs 1)))])) (S' := MS I J cc ss) 7 rfl ?_
  refine ev_iaN (j := k) (z := (I 133 k)) rfl rfl (by omega) (by omega) (rfl) ?_
  show Ev X k_X7_growRow (75, [some (vr 132), some (vi (k : Int)), some (vi 1), some (vi (opI (· ||| ·) (I 134 k) (opI (· ||| ·) (opI (· ||| ·) bs (opI fShl bs 1)) (opI fUsh bs 1)))), some (vi bs), v5, v6], [vi (I 133 k), vi (opI (· ||| ·) (I 134 k) (opI (· ||| ·) (opI (· ||| ·) bs (opI fShl bs 1)) (opI fUsh bs 1)))]) (MS I J cc ss) _
  refine ev_n (fr' := (80, [some (vr 132), some (vi (k : Int)), some (vi 1), some (vi (opI (· &&& ·) (opI (· ||| ·) (I 134 k) (opI (· ||| ·) (opI (· ||| ·) bs (opI fShl bs 1)) (opI fUsh bs 1))) (I 133 k))), some (vi bs), some (vi 0), v6], [])) (S' := MS I J cc ss) 4 rfl ?_
  refine lp_grow1 X _ _ cc ss k hO hG hGO hk bs 0 _ _ (by omega) ?_
  have hb : ∀ c, c < 32 → bt (opI (· &&& ·) (opI (· ||| ·) (I 134 k) (opI (· ||| ·) (opI (· ||| ·) bs (opI fShl bs 1)) (opI fUsh bs 1))) (I 133 k)) c = r0B O G true k c := fun c hc => by
    rw [bt_and, bt_or, (hO.1 k hk).2 c hc, (hG.1 k hk).2 c hc, bt_sd bs c hc]
    unfold r0B
    rw [if_pos rfl, show sdB (bt bs) c = sdB (bsB G k) c by unfold sdB; rw [hbs, hbs, hbs]]
  exact ⟨opI_rng _ _ _, fun c hc q => by rw [hb c hc]; exact q, fun c q => by
    rw [hb c (lt32_of_bt q)] at q; unfold r0B at q; rw [Bool.and_eq_true] at q; exact q.2, fun sy sx hR c q => r0B_in hR (by rw [← hb c (lt32_of_bt q)]; exact q), Or.inl ⟨rfl, hb⟩⟩
theorem beside_bits {I : F2} {G : B2} {k : Nat} {u v : Int} (hG : TR I 134 G) (hk : k < 32) (_ : True ∨ k < 33) (hu : (0 < k ∧ u = I 134 (k - 1)) ∨ (k = 0 ∧ u = 0)) (hv : (k < 31 ∧ v = I 134 (k + 1)) ∨ (31 ≤ k ∧ v = 0)) (c : Nat) : bt (opI (· ||| ·) u v) c = bsB G k c := by
  rcases Nat.lt_or_ge c 32 with hc | hc
  · rw [bt_or]; unfold bsB
    congr 1
    · rcases hu with ⟨h1, rfl⟩ | ⟨h1, rfl⟩
      · rw [decide_eq_true h1, Bool.true_and]; exact (hG.1 (k - 1) (by omega)).2 c hc
      · rw [decide_eq_false (by omega), Bool.false_and, bt_zero]
    · rcases hv with ⟨h1, rfl⟩ | ⟨h1, rfl⟩
      · exact (hG.1 (k + 1) (by omega)).2 c hc
      · rw [bt_zero]
        cases e : G (k + 1) c with
        | false => rfl
        | true => exact absurd (hG.2 _ _ e).1 (by omega)
  · rw [bt_big _ hc]
    cases e : bsB G k c with
    | false => rfl
    | true =>
      unfold bsB at e
      rw [Bool.or_eq_true, Bool.and_eq_true] at e
      rcases e with ⟨_, e⟩ | e <;> exact absurd (hG.2 _ _ e).2 (by omega)
theorem sp_growRow_1 (X : AX) (I J : Nat → Nat → Int) (cc ss : Nat) {O G : B2} (k : Nat) (hO : TR I 133 O) (hG : TR I 134 G) (hGO : ∀ y x, G y x = true → O y x = true) (hk : k < 32) : Ev X k_X7_growRow (0, [some (vr 132), some (vi (k : Int)), some (vi 1), none, none, none, none], []) (MS I J cc ss) (PZ cc ss (fun z I' J' => J' = J ∧ only134 I I' ∧ ∃ G', TR I' 134 G' ∧ GrowP O true k G G' z)) := by
  refine ev_n (fr' := (5, [some (vr 132), some (vi (k : Int)), some (vi 1), none, none, none, none], [vi (k : Int), vr 134])) (S' := MS I J cc ss) 3 rfl ?_
  refine ev_iaN (j := k) (z := (I 134 k)) rfl rfl (by omega) (by omega) (rfl) ?_
  show Ev X k_X7_growRow (6, [some (vr 132), some (vi (k : Int)), some (vi 1), none, none, none, none], [vi (I 134 k)]) (MS I J cc ss) _
  refine ev_n (fr' := (8, [some (vr 132), some (vi (k : Int)), some (vi 1), some (vi (I 134 k)), none, none, none], [vi (k : Int)])) (S' := MS I J cc ss) 2 rfl ?_
  refine ev_if (c := .le) (off := 14) rfl (by decide) (fun (g1 : (k : Int) ≤ 0) => ?_) (fun (g1 : ¬ ((k : Int) ≤ 0)) => ?_)
  · show Ev X k_X7_growRow (22, [some (vr 132), some (vi (k : Int)), some (vi 1), some (vi (I 134 k)), none, none, none], []) (MS I J cc ss) _
    refine ev_n (fr' := (26, [some (vr 132), some (vi (k : Int)), some (vi 1), some (vi (I 134 k)), none, none, none], [vi 31, vi (k : Int), vi 0])) (S' := MS I J cc ss) 3 rfl ?_
    refine ev_ic (c := .ge) (off := 14) rfl (by decide) (fun (g2 : 31 ≤ (k : Int)) => ?_) (fun (g2 : ¬ (31 ≤ (k : Int))) => ?_)
    · show Ev X k_X7_growRow (40, [some (vr 132), some (vi (k : Int)), some (vi 1), some (vi (I 134 k)), none, none, none], [vi 0]) (MS I J cc ss) _
      refine ev_n (fr' := (44, [some (vr 132), some (vi (k : Int)), some (vi 1), some (vi (I 134 k)), some (vi (opI (· ||| ·) 0 0)), none, none], [])) (S' := MS I J cc ss) 3 rfl ?_
      refine gr44_1 X _ _ cc ss k hO hG hGO hk _ _ _ (fun c => ?_)
      exact beside_bits hG hk (by omega) (by first | exact Or.inl ⟨by omega, rfl⟩ | exact Or.inr ⟨by omega, rfl⟩) (by first | exact Or.inl ⟨by omega, rfl⟩ | exact Or.inr ⟨by omega, rfl⟩) c
    · show Ev X k_X7_growRow (29, [some (vr 132), some (vi (k : Int)), some (vi 1), some (vi (I 134 k)), none, none, none], [vi 0]) (MS I J cc ss) _
      refine ev_n (fr' := (35, [some (vr 132), some (vi (k : Int)), some (vi 1), some (vi (I 134 k)), none, none, none], [vi 1, vi (k : Int), vr 134, vi 0])) (S' := MS I J cc ss) 4 rfl ?_
      refine ev_add (z := (k : Int) + 1) rfl (by omega) (by omega) (by omega) ?_
      show Ev X k_X7_growRow (36, [some (vr 132), some (vi (k : Int)), some (vi 1), some (vi (I 134 k)), none, none, none], [vi ((k : Int) + 1), vr 134, vi 0]) (MS I J cc ss) _
      refine ev_iaN (j := k + 1) (z := (I 134 (k + 1))) rfl rfl (by omega) (by omega) (rfl) ?_
      show Ev X k_X7_growRow (37, [some (vr 132), some (vi (k : Int)), some (vi 1), some (vi (I 134 k)), none, none, none], [vi (I 134 (k + 1)), vi 0]) (MS I J cc ss) _
      refine ev_n (fr' := (44, [some (vr 132), some (vi (k : Int)), some (vi 1), some (vi (I 134 k)), some (vi (opI (· ||| ·) 0 (I 134 (k + 1)))), none, none], [])) (S' := MS I J cc ss) 3 rfl ?_
      refine gr44_1 X _ _ cc ss k hO hG hGO hk _ _ _ (fun c => ?_)
      exact beside_bits hG hk (by omega) (by first | exact Or.inl ⟨by omega, rfl⟩ | exact Or.inr ⟨by omega, rfl⟩) (by first | exact Or.inl ⟨by omega, rfl⟩ | exact Or.inr ⟨by omega, rfl⟩) c
  · show Ev X k_X7_growRow (11, [some (vr 132), some (vi (k : Int)), some (vi 1), some (vi (I 134 k)), none, none, none], []) (MS I J cc ss) _
    refine ev_n (fr' := (17, [some (vr 132), some (vi (k : Int)), some (vi 1), some (vi (I 134 k)), none, none, none], [vi 1, vi (k : Int), vr 134])) (S' := MS I J cc ss) 4 rfl ?_
    refine ev_sub (z := (k : Int) - 1) rfl (by omega) (by omega) (by omega) ?_
    show Ev X k_X7_growRow (18, [some (vr 132), some (vi (k : Int)), some (vi 1), some (vi (I 134 k)), none, none, none], [vi ((k : Int) - 1), vr 134]) (MS I J cc ss) _
    refine ev_iaN (j := k - 1) (z := (I 134 (k - 1))) rfl rfl (by omega) (by omega) (rfl) ?_
    show Ev X k_X7_growRow (19, [some (vr 132), some (vi (k : Int)), some (vi 1), some (vi (I 134 k)), none, none, none], [vi (I 134 (k - 1))]) (MS I J cc ss) _
    refine ev_n (fr' := (26, [some (vr 132), some (vi (k : Int)), some (vi 1), some (vi (I 134 k)), none, none, none], [vi 31, vi (k : Int), vi (I 134 (k - 1))])) (S' := MS I J cc ss) 3 rfl ?_
    refine ev_ic (c := .ge) (off := 14) rfl (by decide) (fun (g3 : 31 ≤ (k : Int)) => ?_) (fun (g3 : ¬ (31 ≤ (k : Int))) => ?_)
    · show Ev X k_X7_growRow (40, [some (vr 132), some (vi (k : Int)), some (vi 1), some (vi (I 134 k)), none, none, none], [vi (I 134 (k - 1))]) (MS I J cc ss) _
      refine ev_n (fr' := (44, [some (vr 132), some (vi (k : Int)), some (vi 1), some (vi (I 134 k)), some (vi (opI (· ||| ·) (I 134 (k - 1)) 0)), none, none], [])) (S' := MS I J cc ss) 3 rfl ?_
      refine gr44_1 X _ _ cc ss k hO hG hGO hk _ _ _ (fun c => ?_)
      exact beside_bits hG hk (by omega) (by first | exact Or.inl ⟨by omega, rfl⟩ | exact Or.inr ⟨by omega, rfl⟩) (by first | exact Or.inl ⟨by omega, rfl⟩ | exact Or.inr ⟨by omega, rfl⟩) c
    · show Ev X k_X7_growRow (29, [some (vr 132), some (vi (k : Int)), some (vi 1), some (vi (I 134 k)), none, none, none], [vi (I 134 (k - 1))]) (MS I J cc ss) _
      refine ev_n (fr' := (35, [some (vr 132), some (vi (k : Int)), some (vi 1), some (vi (I 134 k)), none, none, none], [vi 1, vi (k : Int), vr 134, vi (I 134 (k - 1))])) (S' := MS I J cc ss) 4 rfl ?_
      refine ev_add (z := (k : Int) + 1) rfl (by omega) (by omega) (by omega) ?_
      show Ev X k_X7_growRow (36, [some (vr 132), some (vi (k : Int)), some (vi 1), some (vi (I 134 k)), none, none, none], [vi ((k : Int) + 1), vr 134, vi (I 134 (k - 1))]) (MS I J cc ss) _
      refine ev_iaN (j := k + 1) (z := (I 134 (k + 1))) rfl rfl (by omega) (by omega) (rfl) ?_
      show Ev X k_X7_growRow (37, [some (vr 132), some (vi (k : Int)), some (vi 1), some (vi (I 134 k)), none, none, none], [vi (I 134 (k + 1)), vi (I 134 (k - 1))]) (MS I J cc ss) _
      refine ev_n (fr' := (44, [some (vr 132), some (vi (k : Int)), some (vi 1), some (vi (I 134 k)), some (vi (opI (· ||| ·) (I 134 (k - 1)) (I 134 (k + 1)))), none, none], [])) (S' := MS I J cc ss) 3 rfl ?_
      refine gr44_1 X _ _ cc ss k hO hG hGO hk _ _ _ (fun c => ?_)
      exact beside_bits hG hk (by omega) (by first | exact Or.inl ⟨by omega, rfl⟩ | exact Or.inr ⟨by omega, rfl⟩) (by first | exact Or.inl ⟨by omega, rfl⟩ | exact Or.inr ⟨by omega, rfl⟩) c
theorem lp_grow0 (X : AX) (I J : Nat → Nat → Int) (cc ss : Nat) {O G : B2} (k : Nat) (hO : TR I 133 O) (hG : TR I 134 G) (hGO : ∀ y x, G y x = true → O y x = true) (hk : k < 32) (bs : Int) (st : Nat) (r : Int) (v6 : Option AV) (hst : st ≤ 32) (hr : GrI O G false k r st) : Ev X k_X7_growRow (80, [some (vr 132), some (vi (k : Int)), some (vi 0), some (vi r), some (vi bs), some (vi (st : Int)), v6], []) (MS I J cc ss) (PZ cc ss (fun z I' J' => J' = J ∧ only134 I I' ∧ ∃ G', TR I' 134 G' ∧ GrowP O false k G G' z)) := by
  refine ev_n (fr' := (84, [some (vr 132), some (vi (k : Int)), some (vi 0), some (vi r), some (vi bs), some (vi (st : Int)), v6], [vi 32, vi (st : Int)])) (S' := MS I J cc ss) 2 rfl ?_
  refine ev_ic (c := .ge) (off := 39) rfl (by decide) (fun (g1 : 32 ≤ (st : Int)) => ?_) (fun (g1 : ¬ (32 ≤ (st : Int))) => ?_)
  · show Ev X k_X7_growRow (123, [some (vr 132), some (vi (k : Int)), some (vi 0), some (vi r), some (vi bs), some (vi (st : Int)), v6], []) (MS I J cc ss) _
    have i5 : (∀ c, c < 32 → (sdB (bt r) c && O k c) = bt r c) ∨ st = 32 := Or.inr (by omega)
    refine ev_n (fr' := (129, [some (vr 132), some (vi (k : Int)), some (vi 0), some (vi r), some (vi bs), some (vi (st : Int)), v6], [vi (k : Int), vr 134, vi r])) (S' := MS I J cc ss) 4 rfl ?_
    refine ev_iaN (j := k) (z := (I 134 k)) rfl rfl (by omega) (by omega) (rfl) ?_
    show Ev X k_X7_growRow (130, [some (vr 132), some (vi (k : Int)), some (vi 0), some (vi r), some (vi bs), some (vi (st : Int)), v6], [vi (I 134 k), vi r]) (MS I J cc ss) _
    refine ev_ic (c := .eq) (off := 7) rfl (by decide) (fun (g2 : r = (I 134 k)) => ?_) (fun (g2 : ¬ (r = (I 134 k))) => ?_)
    · show Ev X k_X7_growRow (137, [some (vr 132), some (vi (k : Int)), some (vi 0), some (vi r), some (vi bs), some (vi (st : Int)), v6], []) (MS I J cc ss) _
      refine ev_n (fr' := (146, [some (vr 132), some (vi (k : Int)), some (vi 0), some (vi r), some (vi bs), some (vi 0), v6], [vi r, vi (k : Int), vr 134])) (S' := MS I J cc ss) 6 rfl ?_
      refine ev_iasN (j := k) rfl rfl (by omega) (by omega) ?_
      show Ev X k_X7_growRow (147, [some (vr 132), some (vi (k : Int)), some (vi 0), some (vi r), some (vi bs), some (vi 0), v6], []) (MS (up2 I 134 k r) J cc ss) _
      refine ev_n (fr' := (149, [some (vr 132), some (vi (k : Int)), some (vi 0), some (vi r), some (vi bs), some (vi 0), v6], [vi 0])) (S' := MS (up2 I 134 k r) J cc ss) 1 rfl ?_
      refine ev_r rfl rfl rfl ?_
      exact ⟨_, _, _, rfl, rfl, rfl, fun a ha => up2_row _ _ _ _ ha, _, hG.upd hk hr.1, grow_fin hO hG hGO hk hr i5 (by first | exact Or.inl ⟨rfl, by assumption⟩ | exact Or.inr ⟨rfl, by assumption⟩)⟩
    · show Ev X k_X7_growRow (133, [some (vr 132), some (vi (k : Int)), some (vi 0), some (vi r), some (vi bs), some (vi (st : Int)), v6], []) (MS I J cc ss) _
      refine ev_n (fr' := (146, [some (vr 132), some (vi (k : Int)), some (vi 0), some (vi r), some (vi bs), some (vi 1), v6], [vi r, vi (k : Int), vr 134])) (S' := MS I J cc ss) 7 rfl ?_
      refine ev_iasN (j := k) rfl rfl (by omega) (by omega) ?_
      show Ev X k_X7_growRow (147, [some (vr 132), some (vi (k : Int)), some (vi 0), some (vi r), some (vi bs), some (vi 1), v6], []) (MS (up2 I 134 k r) J cc ss) _
      refine ev_n (fr' := (149, [some (vr 132), some (vi (k : Int)), some (vi 0), some (vi r), some (vi bs), some (vi 1), v6], [vi 1])) (S' := MS (up2 I 134 k r) J cc ss) 1 rfl ?_
      refine ev_r rfl rfl rfl ?_
      exact ⟨_, _, _, rfl, rfl, rfl, fun a ha => up2_row _ _ _ _ ha, _, hG.upd hk hr.1, grow_fin hO hG hGO hk hr i5 (by first | exact Or.inl ⟨rfl, by assumption⟩ | exact Or.inr ⟨rfl, by assumption⟩)⟩
  · show Ev X k_X7_growRow (87, [some (vr 132), some (vi (k : Int)), some (vi 0), some (vi r), some (vi bs), some (vi (st : Int)), v6], []) (MS I J cc ss) _
    refine ev_n (fr' := (101, [some (vr 132), some (vi (k : Int)), some (vi 0), some (vi r), some (vi bs), some (vi (st : Int)), v6], [vi (k : Int), vr 133, vi (opI (· ||| ·) (opI (· ||| ·) r (opI fShl r 1)) (opI fUsh r 1))])) (S' := MS I J cc ss) 12 rfl ?_
    refine ev_iaN (j := k) (z := (I 133 k)) rfl rfl (by omega) (by omega) (rfl) ?_
    show Ev X k_X7_growRow (102, [some (vr 132), some (vi (k : Int)), some (vi 0), some (vi r), some (vi bs), some (vi (st : Int)), v6], [vi (I 133 k), vi (opI (· ||| ·) (opI (· ||| ·) r (opI fShl r 1)) (opI fUsh r 1))]) (MS I J cc ss) _
    refine ev_n (fr' := (108, [some (vr 132), some (vi (k : Int)), some (vi 0), some (vi r), some (vi bs), some (vi (st : Int)), some (vi (opI (· &&& ·) (opI (· ||| ·) (opI (· ||| ·) r (opI fShl r 1)) (opI fUsh r 1)) (I 133 k)))], [vi r, vi (opI (· &&& ·) (opI (· ||| ·) (opI (· ||| ·) r (opI fShl r 1)) (opI fUsh r 1)) (I 133 k))])) (S' := MS I J cc ss) 4 rfl ?_
    refine ev_ic (c := .ne) (off := 6) rfl (by decide) (fun (g3 : (opI (· &&& ·) (opI (· ||| ·) (opI (· ||| ·) r (opI fShl r 1)) (opI fUsh r 1)) (I 133 k)) ≠ r) => ?_) (fun (g3 : ¬ ((opI (· &&& ·) (opI (· ||| ·) (opI (· ||| ·) r (opI fShl r 1)) (opI fUsh r 1)) (I 133 k)) ≠ r)) => ?_)
    · show Ev X k_X7_growRow (114, [some (vr 132), some (vi (k : Int)), some (vi 0), some (vi r), some (vi bs), some (vi (st : Int)), some (vi (opI (· &&& ·) (opI (· ||| ·) (opI (· ||| ·) r (opI fShl r 1)) (opI fUsh r 1)) (I 133 k)))], []) (MS I J cc ss) _
      refine ev_n (fr' := (117, [some (vr 132), some (vi (k : Int)), some (vi 0), some (vi (opI (· &&& ·) (opI (· ||| ·) (opI (· ||| ·) r (opI fShl r 1)) (opI fUsh r 1)) (I 133 k))), some (vi bs), some (vi (st : Int)), some (vi (opI (· &&& ·) (opI (· ||| ·) (opI (· ||| ·) r (opI fShl r 1)) (opI fUsh r 1)) (I 133 k)))], [])) (S' := MS I J cc ss) 2 rfl ?_
      refine ev_inc (z := (st : Int) + 1) rfl rfl (by omega) (by omega) (by omega) rfl ?_
      show Ev X k_X7_growRow (120, [some (vr 132), some (vi (k : Int)), some (vi 0), some (vi (opI (· &&& ·) (opI (· ||| ·) (opI (· ||| ·) r (opI fShl r 1)) (opI fUsh r 1)) (I 133 k))), some (vi bs), some (vi ((st : Int) + 1)), some (vi (opI (· &&& ·) (opI (· ||| ·) (opI (· ||| ·) r (opI fShl r 1)) (opI fUsh r 1)) (I 133 k)))], []) (MS I J cc ss) _
      refine ev_n (fr' := (80, [some (vr 132), some (vi (k : Int)), some (vi 0), some (vi (opI (· &&& ·) (opI (· ||| ·) (opI (· ||| ·) r (opI fShl r 1)) (opI fUsh r 1)) (I 133 k))), some (vi bs), some (vi ((st : Int) + 1)), some (vi (opI (· &&& ·) (opI (· ||| ·) (opI (· ||| ·) r (opI fShl r 1)) (opI fUsh r 1)) (I 133 k)))], [])) (S' := MS I J cc ss) 1 rfl ?_
      exact lp_grow0 X _ _ cc ss k hO hG hGO hk bs (st + 1) _ _ (by omega) (hr.next (opI_rng _ _ _) (fun c hc => by rw [bt_and, bt_sd r c hc, (hO.1 k hk).2 c hc]) g3)
    · show Ev X k_X7_growRow (111, [some (vr 132), some (vi (k : Int)), some (vi 0), some (vi r), some (vi bs), some (vi (st : Int)), some (vi (opI (· &&& ·) (opI (· ||| ·) (opI (· ||| ·) r (opI fShl r 1)) (opI fUsh r 1)) (I 133 k)))], []) (MS I J cc ss) _
      refine ev_n (fr' := (123, [some (vr 132), some (vi (k : Int)), some (vi 0), some (vi r), some (vi bs), some (vi (st : Int)), some (vi (opI (· &&& ·) (opI (· ||| ·) (opI (· ||| ·) r (opI fShl r 1)) (opI fUsh r 1)) (I 133 k)))], [])) (S' := MS I J cc ss) 1 rfl ?_
      have i5 : (∀ c, c < 32 → (sdB (bt r) c && O k c) = bt r c) ∨ st = 32 := Or.inl (fun c hc => by
        rw [← bt_sd r c hc, ← (hO.1 k hk).2 c hc, ← bt_and, Decidable.of_not_not g3])
      refine ev_n (fr' := (129, [some (vr 132), some (vi (k : Int)), some (vi 0), some (vi r), some (vi bs), some (vi (st : Int)), some (vi (opI (· &&& ·) (opI (· ||| ·) (opI (· ||| ·) r (opI fShl r 1)) (opI fUsh r 1)) (I 133 k)))], [vi (k : Int), vr 134, vi r])) (S' := MS I J cc ss) 4 rfl ?_
      refine ev_iaN (j := k) (z := (I 134 k)) rfl rfl (by omega) (by omega) (rfl) ?_
      show Ev X k_X7_growRow (130, [some (vr 132), some (vi (k : Int)), some (vi 0), some (vi r), some (vi bs), some (vi (st : Int)), some (vi (opI (· &&& ·) (opI (· ||| ·) (opI (· ||| ·) r (opI fShl r 1)) (opI fUsh r 1)) (I 133 k)))], [vi (I 134 k), vi r]) (MS I J cc ss) _
      refine ev_ic (c := .eq) (off := 7) rfl (by decide) (fun (g4 : r = (I 134 k)) => ?_) (fun (g4 : ¬ (r = (I 134 k))) => ?_)
      · show Ev X k_X7_growRow (137, [some (vr 132), some (vi (k : Int)), some (vi 0), some (vi r), some (vi bs), some (vi (st : Int)), some (vi (opI (· &&& ·) (opI (· ||| ·) (opI (· ||| ·) r (opI fShl r 1)) (opI fUsh r 1)) (I 133 k)))], []) (MS I J cc ss) _
        refine ev_n (fr' := (146, [some (vr 132), some (vi (k : Int)), some (vi 0), some (vi r), some (vi bs), some (vi 0), some (vi (opI (· &&& ·) (opI (· ||| ·) (opI (· ||| ·) r (opI fShl r 1)) (opI fUsh r 1)) (I 133 k)))], [vi r, vi (k : Int), vr 134])) (S' := MS I J cc ss) 6 rfl ?_
        refine ev_iasN (j := k) rfl rfl (by omega) (by omega) ?_
        show Ev X k_X7_growRow (147, [some (vr 132), some (vi (k : Int)), some (vi 0), some (vi r), some (vi bs), some (vi 0), some (vi (opI (· &&& ·) (opI (· ||| ·) (opI (· ||| ·) r (opI fShl r 1)) (opI fUsh r 1)) (I 133 k)))], []) (MS (up2 I 134 k r) J cc ss) _
        refine ev_n (fr' := (149, [some (vr 132), some (vi (k : Int)), some (vi 0), some (vi r), some (vi bs), some (vi 0), some (vi (opI (· &&& ·) (opI (· ||| ·) (opI (· ||| ·) r (opI fShl r 1)) (opI fUsh r 1)) (I 133 k)))], [vi 0])) (S' := MS (up2 I 134 k r) J cc ss) 1 rfl ?_
        refine ev_r rfl rfl rfl ?_
        exact ⟨_, _, _, rfl, rfl, rfl, fun a ha => up2_row _ _ _ _ ha, _, hG.upd hk hr.1, grow_fin hO hG hGO hk hr i5 (by first | exact Or.inl ⟨rfl, by assumption⟩ | exact Or.inr ⟨rfl, by assumption⟩)⟩
      · show Ev X k_X7_growRow (133, [some (vr 132), some (vi (k : Int)), some (vi 0), some (vi r), some (vi bs), some (vi (st : Int)), some (vi (opI (· &&& ·) (opI (· ||| ·) (opI (· ||| ·) r (opI fShl r 1)) (opI fUsh r 1)) (I 133 k)))], []) (MS I J cc ss) _
        refine ev_n (fr' := (146, [some (vr 132), some (vi (k : Int)), some (vi 0), some (vi r), some (vi bs), some (vi 1), some (vi (opI (· &&& ·) (opI (· ||| ·) (opI (· ||| ·) r (opI fShl r 1)) (opI fUsh r 1)) (I 133 k)))], [vi r, vi (k : Int), vr 134])) (S' := MS I J cc ss) 7 rfl ?_
        refine ev_iasN (j := k) rfl rfl (by omega) (by omega) ?_
        show Ev X k_X7_growRow (147, [some (vr 132), some (vi (k : Int)), some (vi 0), some (vi r), some (vi bs), some (vi 1), some (vi (opI (· &&& ·) (opI (· ||| ·) (opI (· ||| ·) r (opI fShl r 1)) (opI fUsh r 1)) (I 133 k)))], []) (MS (up2 I 134 k r) J cc ss) _
        refine ev_n (fr' := (149, [some (vr 132), some (vi (k : Int)), some (vi 0), some (vi r), some (vi bs), some (vi 1), some (vi (opI (· &&& ·) (opI (· ||| ·) (opI (· ||| ·) r (opI fShl r 1)) (opI fUsh r 1)) (I 133 k)))], [vi 1])) (S' := MS (up2 I 134 k r) J cc ss) 1 rfl ?_
        refine ev_r rfl rfl rfl ?_
        exact ⟨_, _, _, rfl, rfl, rfl, fun a ha => up2_row _ _ _ _ ha, _, hG.upd hk hr.1, grow_fin hO hG hGO hk hr i5 (by first | exact Or.inl ⟨rfl, by assumption⟩ | exact Or.inr ⟨rfl, by assumption⟩)⟩
termination_by 32 - st
decreasing_by all_goals omega
theorem gr44_0 (X : AX) (I J : Nat → Nat → Int) (cc ss : Nat) {O G : B2} (k : Nat) (hO : TR I 133 O) (hG : TR I 134 G) (hGO : ∀ y x, G y x = true → O y x = true) (hk : k < 32) (bs : Int) (v5 v6 : Option AV) (hbs : ∀ c, bt bs c = bsB G k c) : Ev X k_X7_growRow (44, [some (vr 132), some (vi (k : Int)), some (vi 0), some (vi (I 134 k)), some (vi bs), v5, v6], []) (MS I J cc ss) (PZ cc ss (fun z I' J' => J' = J ∧ only134 I I' ∧ ∃ G', TR I' 134 G' ∧ GrowP O false k G G' z)) := by
  refine ev_n (fr' := (74, [some (vr 132), some (vi (k : Int)), some (vi 0), some (vi (opI (· ||| ·) (I 134 k) bs)), some (vi bs), v5, v6], [vi (k : Int), vr 133, vi (opI (· ||| ·) (I 134 k) bs)])) (S' := MS I J cc ss) 10 rfl ?_
  refine ev_iaN (j := k) (z := (I 133 k)) rfl rfl (by omega) (by omega) (rfl) ?_
  show Ev X k_X7_growRow (75, [some (vr 132), some (vi (k : Int)), some (vi 0), some (vi (opI (· ||| ·) (I 134 k) bs)), some (vi bs), v5, v6], [vi (I 133 k), vi (opI (· ||| ·) (I 134 k) bs)]) (MS I J cc ss) _
  refine ev_n (fr' := (80, [some (vr 132), some (vi (k : Int)), some (vi 0), some (vi (opI (· &&& ·) (opI (· ||| ·) (I 134 k) bs) (I 133 k))), some (vi bs), some (vi 0), v6], [])) (S' := MS I J cc ss) 4 rfl ?_
  refine lp_grow0 X _ _ cc ss k hO hG hGO hk bs 0 _ _ (by omega) ?_
  have hb : ∀ c, c < 32 → bt (opI (· &&& ·) (opI (· ||| ·) (I 134 k) bs) (I 133 k)) c = r0B O G false k c := fun c hc => by
    rw [bt_and, bt_or, (hO.1 k hk).2 c hc, (hG.1 k hk).2 c hc, hbs c]
    unfold r0B
    rfl
  exact ⟨opI_rng _ _ _, fun c hc q => by rw [hb c hc]; exact q, fun c q => by
    rw [hb c (lt32_of_bt q)] at q; unfold r0B at q; rw [Bool.and_eq_true] at q; exact q.2, fun sy sx hR c q => r0B_in hR (by rw [← hb c (lt32_of_bt q)]; exact q), Or.inl ⟨rfl, hb⟩⟩
theorem sp_growRow_0 (X : AX) (I J : Nat → Nat → Int) (cc ss : Nat) {O G : B2} (k : Nat) (hO : TR I 133 O) (hG : TR I 134 G) (hGO : ∀ y x, G y x = true → O y x = true) (hk : k < 32) : Ev X k_X7_growRow (0, [some (vr 132), some (vi (k : Int)), some (vi 0), none, none, none, none], []) (MS I J cc ss) (PZ cc ss (fun z I' J' => J' = J ∧ only134 I I' ∧ ∃ G', TR I' 134 G' ∧ GrowP O false k G G' z)) := by
  refine ev_n (fr' := (5, [some (vr 132), some (vi (k : Int)), some (vi 0), none, none, none, none], [vi (k : Int), vr 134])) (S' := MS I J cc ss) 3 rfl ?_
  refine ev_iaN (j := k) (z := (I 134 k)) rfl rfl (by omega) (by omega) (rfl) ?_
  show Ev X k_X7_growRow (6, [some (vr 132), some (vi (k : Int)), some (vi 0), none, none, none, none], [vi (I 134 k)]) (MS I J cc ss) _
  refine ev_n (fr' := (8, [some (vr 132), some (vi (k : Int)), some (vi 0), some (vi (I 134 k)), none, none, none], [vi (k : Int)])) (S' := MS I J cc ss) 2 rfl ?_
  refine ev_if (c := .le) (off := 14) rfl (by decide) (fun (g1 : (k : Int) ≤ 0) => ?_) (fun (g1 : ¬ ((k : Int) ≤ 0)) => ?_)
  · show Ev X k_X7_growRow (22, [some (vr 132), some (vi (k : Int)), some (vi 0), some (vi (I 134 k)), none, none, none], []) (MS I J cc ss) _
    refine ev_n (fr' := (26, [some (vr 132), some (vi (k : Int)), some (vi 0), some (vi (I 134 k)), none, none, none], [vi 31, vi (k : Int), vi 0])) (S' := MS I J cc ss) 3 rfl ?_
    refine ev_ic (c := .ge) (off := 14) rfl (by decide) (fun (g2 : 31 ≤ (k : Int)) => ?_) (fun (g2 : ¬ (31 ≤ (k : Int))) => ?_)
    · show Ev X k_X7_growRow (40, [some (vr 132), some (vi (k : Int)), some (vi 0), some (vi (I 134 k)), none, none, none], [vi 0]) (MS I J cc ss) _
      refine ev_n (fr' := (44, [some (vr 132), some (vi (k : Int)), some (vi 0), some (vi (I 134 k)), some (vi (opI (· ||| ·) 0 0)), none, none], [])) (S' := MS I J cc ss) 3 rfl ?_
      refine gr44_0 X _ _ cc ss k hO hG hGO hk _ _ _ (fun c => ?_)
      exact beside_bits hG hk (by omega) (by first | exact Or.inl ⟨by omega, rfl⟩ | exact Or.inr ⟨by omega, rfl⟩) (by first | exact Or.inl ⟨by omega, rfl⟩ | exact Or.inr ⟨by omega, rfl⟩) c
    · show Ev X k_X7_growRow (29, [some (vr 132), some (vi (k : Int)), some (vi 0), some (vi (I 134 k)), none, none, none], [vi 0]) (MS I J cc ss) _
      refine ev_n (fr' := (35, [some (vr 132), some (vi (k : Int)), some (vi 0), some (vi (I 134 k)), none, none, none], [vi 1, vi (k : Int), vr 134, vi 0])) (S' := MS I J cc ss) 4 rfl ?_
      refine ev_add (z := (k : Int) + 1) rfl (by omega) (by omega) (by omega) ?_
      show Ev X k_X7_growRow (36, [some (vr 132), some (vi (k : Int)), some (vi 0), some (vi (I 134 k)), none, none, none], [vi ((k : Int) + 1), vr 134, vi 0]) (MS I J cc ss) _
      refine ev_iaN (j := k + 1) (z := (I 134 (k + 1))) rfl rfl (by omega) (by omega) (rfl) ?_
      show Ev X k_X7_growRow (37, [some (vr 132), some (vi (k : Int)), some (vi 0), some (vi (I 134 k)), none, none, none], [vi (I 134 (k + 1)), vi 0]) (MS I J cc ss) _
      refine ev_n (fr' := (44, [some (vr 132), some (vi (k : Int)), some (vi 0), some (vi (I 134 k)), some (vi (opI (· ||| ·) 0 (I 134 (k + 1)))), none, none], [])) (S' := MS I J cc ss) 3 rfl ?_
      refine gr44_0 X _ _ cc ss k hO hG hGO hk _ _ _ (fun c => ?_)
      exact beside_bits hG hk (by omega) (by first | exact Or.inl ⟨by omega, rfl⟩ | exact Or.inr ⟨by omega, rfl⟩) (by first | exact Or.inl ⟨by omega, rfl⟩ | exact Or.inr ⟨by omega, rfl⟩) c
  · show Ev X k_X7_growRow (11, [some (vr 132), some (vi (k : Int)), some (vi 0), some (vi (I 134 k)), none, none, none], []) (MS I J cc ss) _
    refine ev_n (fr' := (17, [some (vr 132), some (vi (k : Int)), some (vi 0), some (vi (I 134 k)), none, none, none], [vi 1, vi (k : Int), vr 134])) (S' := MS I J cc ss) 4 rfl ?_
    refine ev_sub (z := (k : Int) - 1) rfl (by omega) (by omega) (by omega) ?_
    show Ev X k_X7_growRow (18, [some (vr 132), some (vi (k : Int)), some (vi 0), some (vi (I 134 k)), none, none, none], [vi ((k : Int) - 1), vr 134]) (MS I J cc ss) _
    refine ev_iaN (j := k - 1) (z := (I 134 (k - 1))) rfl rfl (by omega) (by omega) (rfl) ?_
    show Ev X k_X7_growRow (19, [some (vr 132), some (vi (k : Int)), some (vi 0), some (vi (I 134 k)), none, none, none], [vi (I 134 (k - 1))]) (MS I J cc ss) _
    refine ev_n (fr' := (26, [some (vr 132), some (vi (k : Int)), some (vi 0), some (vi (I 134 k)), none, none, none], [vi 31, vi (k : Int), vi (I 134 (k - 1))])) (S' := MS I J cc ss) 3 rfl ?_
    refine ev_ic (c := .ge) (off := 14) rfl (by decide) (fun (g3 : 31 ≤ (k : Int)) => ?_) (fun (g3 : ¬ (31 ≤ (k : Int))) => ?_)
    · show Ev X k_X7_growRow (40, [some (vr 132), some (vi (k : Int)), some (vi 0), some (vi (I 134 k)), none, none, none], [vi (I 134 (k - 1))]) (MS I J cc ss) _
      refine ev_n (fr' := (44, [some (vr 132), some (vi (k : Int)), some (vi 0), some (vi (I 134 k)), some (vi (opI (· ||| ·) (I 134 (k - 1)) 0)), none, none], [])) (S' := MS I J cc ss) 3 rfl ?_
      refine gr44_0 X _ _ cc ss k hO hG hGO hk _ _ _ (fun c => ?_)
      exact beside_bits hG hk (by omega) (by first | exact Or.inl ⟨by omega, rfl⟩ | exact Or.inr ⟨by omega, rfl⟩) (by first | exact Or.inl ⟨by omega, rfl⟩ | exact Or.inr ⟨by omega, rfl⟩) c
    · show Ev X k_X7_growRow (29, [some (vr 132), some (vi (k : Int)), some (vi 0), some (vi (I 134 k)), none, none, none], [vi (I 134 (k - 1))]) (MS I J cc ss) _
      refine ev_n (fr' := (35, [some (vr 132), some (vi (k : Int)), some (vi 0), some (vi (I 134 k)), none, none, none], [vi 1, vi (k : Int), vr 134, vi (I 134 (k - 1))])) (S' := MS I J cc ss) 4 rfl ?_
      refine ev_add (z := (k : Int) + 1) rfl (by omega) (by omega) (by omega) ?_
      show Ev X k_X7_growRow (36, [some (vr 132), some (vi (k : Int)), some (vi 0), some (vi (I 134 k)), none, none, none], [vi ((k : Int) + 1), vr 134, vi (I 134 (k - 1))]) (MS I J cc ss) _
      refine ev_iaN (j := k + 1) (z := (I 134 (k + 1))) rfl rfl (by omega) (by omega) (rfl) ?_
      show Ev X k_X7_growRow (37, [some (vr 132), some (vi (k : Int)), some (vi 0), some (vi (I 134 k)), none, none, none], [vi (I 134 (k + 1)), vi (I 134 (k - 1))]) (MS I J cc ss) _
      refine ev_n (fr' := (44, [some (vr 132), some (vi (k : Int)), some (vi 0), some (vi (I 134 k)), some (vi (opI (· ||| ·) (I 134 (k - 1)) (I 134 (k + 1)))), none, none], [])) (S' := MS I J cc ss) 3 rfl ?_
      refine gr44_0 X _ _ cc ss k hO hG hGO hk _ _ _ (fun c => ?_)
      exact beside_bits hG hk (by omega) (by first | exact Or.inl ⟨by omega, rfl⟩ | exact Or.inr ⟨by omega, rfl⟩) (by first | exact Or.inl ⟨by omega, rfl⟩ | exact Or.inr ⟨by omega, rfl⟩) c
