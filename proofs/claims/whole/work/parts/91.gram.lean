/-! THE GRAMMAR as functions; the class's shapes (printed by gen/g91.py) -/
/-- numbers of a shape, m of them from number w on -/
def pNs (tx : F1) (n : Nat) (kd : Int) : Nat → Nat → Nat → F1 → (Nat × F1) ⊕ (Int × Nat)
  | 0, _, p, v => .inl (p, v)
  | m + 1, w, p, v => match pnF tx n (lowF kd w) (highF kd w) p with
    | .inl (e, z) => pNs tx n kd m (w + 1) e (upd1 v w z)
    | .inr x => .inr x
def kdW (w : Int) : Int := if w = 2098 then 0 else if w = 2552 then 1 else if w = 402885 then 2 else -1
def v0F (kd : Int) : F1 := fun w => if w = 0 then kd else 0
/-- a shape whose first word stands at a -/
def pSh (tx : F1) (n a : Nat) : (Nat × F1) ⊕ (Int × Nat) := if kdW (wdF tx n a) = -1 then .inr (-2, a) else pNs tx n (kdW (wdF tx n a)) (if kdW (wdF tx n a) = 0 then 4 else 5) 1 (leF tx n a) (v0F (kdW (wdF tx n a)))
/-- item c put into row p -/
def puS (d : F1) (p c : Nat) (v : F1) : F1 := upd1 (wrS d (37 * p + 6 * c + 13) 6 v) (37 * p + 12) ((c : Int) + 1)
def puU (d : F1) (p c : Nat) (v : F1) : F1 := upd1 (wrS d (19 * p + 3 * c + 310) 3 v) (19 * p + 309) ((c : Int) + 1)
theorem puS_0 (d : F1) (p c : Nat) : addZ d (37 * p + 12) (37 * p + 6 * c + 13) 6 ((c : Int) + 1) = puS d p c (fun _ => 0) := by
  funext k; unfold addZ puS upd1 wrS; rfl
theorem puU_0 (d : F1) (p c : Nat) : addZ d (19 * p + 309) (19 * p + 3 * c + 310) 3 ((c : Int) + 1) = puU d p c (fun _ => 0) := by
  funext k; unfold addZ puU upd1 wrS; rfl
theorem wrS_upd {d : F1} {lo m w : Nat} {v : F1} {z : Int} (hw : w < m) : upd1 (wrS d lo m v) (lo + w) z = wrS d lo m (upd1 v w z) := by
  funext k
  unfold upd1 wrS
  by_cases e : k = lo + w
  · rw [if_pos e, if_pos (by omega)]
    show z = (if k - lo = w then z else v (k - lo))
    rw [if_pos (by omega)]
  · rw [if_neg e]
    by_cases e2 : lo ≤ k ∧ k < lo + m
    · rw [if_pos e2, if_pos e2]
      show v (k - lo) = (if k - lo = w then z else v (k - lo))
      rw [if_neg (by omega)]
    · rw [if_neg e2, if_neg e2]
theorem upd1_comm {d : F1} {a b : Nat} {x y : Int} (h : a ≠ b) : upd1 (upd1 d a x) b y = upd1 (upd1 d b y) a x := by
  funext k
  unfold upd1
  by_cases e : k = b
  · rw [if_pos e, if_neg (by omega), if_pos e]
  · rw [if_neg e, if_neg e]
theorem puS_upd {d : F1} {p c w : Nat} {v : F1} {z : Int} (hw : w < 6) : upd1 (puS d p c v) (37 * p + 6 * c + w + 13) z = puS d p c (upd1 v w z) := by
  unfold puS
  rw [upd1_comm (by omega), ← wrS_upd hw, show 37 * p + 6 * c + 13 + w = 37 * p + 6 * c + w + 13 by omega]
theorem puU_upd {d : F1} {p c w : Nat} {v : F1} {z : Int} (hw : w < 3) : upd1 (puU d p c v) (19 * p + 3 * c + w + 310) z = puU d p c (upd1 v w z) := by
  unfold puU
  rw [upd1_comm (by omega), ← wrS_upd hw, show 19 * p + 3 * c + 310 + w = 19 * p + 3 * c + w + 310 by omega]
theorem puS_v0 {d : F1} {p c : Nat} {kd : Int} : upd1 (puS d p c (fun _ => 0)) (37 * p + 6 * c + 0 + 13) kd = puS d p c (v0F kd) := puS_upd (w := 0) (by omega)
theorem puS_out {d : F1} {p c k : Nat} {v : F1} (h : k ≠ 37 * p + 12) (h2 : k < 37 * p + 6 * c + 13 ∨ 37 * p + 6 * c + 19 ≤ k) : puS d p c v k = d k := by
  unfold puS; rw [upd1_ne _ _ _ h, wrS_out (by omega)]
theorem puU_out {d : F1} {p c k : Nat} {v : F1} (h : k ≠ 19 * p + 309) (h2 : k < 19 * p + 3 * c + 310 ∨ 19 * p + 3 * c + 313 ≤ k) : puU d p c v k = d k := by
  unfold puU; rw [upd1_ne _ _ _ h, wrS_out (by omega)]
theorem puS_cnt {d : F1} {p c : Nat} {v : F1} : puS d p c v (37 * p + 12) = (c : Int) + 1 := upd1_same _ _ _
theorem puU_cnt {d : F1} {p c : Nat} {v : F1} : puU d p c v (19 * p + 309) = (c : Int) + 1 := upd1_same _ _ _
theorem puS_in {d : F1} {p c w : Nat} {v : F1} (h : w < 6) : puS d p c v (37 * p + 6 * c + w + 13) = v w := by
  unfold puS; rw [upd1_ne _ _ _ (by omega), show 37 * p + 6 * c + w + 13 = 37 * p + 6 * c + 13 + w by omega, wrS_in h]
theorem puU_in {d : F1} {p c w : Nat} {v : F1} (h : w < 3) : puU d p c v (19 * p + 3 * c + w + 310) = v w := by
  unfold puU; rw [upd1_ne _ _ _ (by omega), show 19 * p + 3 * c + w + 310 = 19 * p + 3 * c + 310 + w by omega, wrS_in h]
/-- what the rows of parts must satisfy while an item is written -/
def PK (e : F1) (p : Nat) : Prop := e 11 ≤ 8 ∧ (∀ q : Nat, (q : Int) < e 11 → e (37 * q + 12) ≤ 6) ∧ (p : Int) < e 11
def IK (e : F1) (p : Nat) : Prop := e 308 ≤ 8 ∧ (∀ q : Nat, (q : Int) < e 308 → e (19 * q + 309) ≤ 6) ∧ (p : Int) < e 308
theorem PK.pu {e : F1} {p c : Nat} {v : F1} (h : PK e p) (hc : c < 6) : PK (puS e p c v) p := by
  obtain ⟨h1, h2, h3⟩ := h
  have e11 : puS e p c v 11 = e 11 := puS_out (by omega) (by omega)
  refine ⟨by rw [e11]; exact h1, fun q hq => ?_, by rw [e11]; exact h3⟩
  rw [e11] at hq
  by_cases eq : q = p
  · rw [eq, puS_cnt]; omega
  · rw [puS_out (by omega) (by rcases Nat.lt_or_gt_of_ne eq with h | h <;> omega)]; exact h2 q hq
theorem IK.pu {e : F1} {p c : Nat} {v : F1} (h : IK e p) (hc : c < 6) : IK (puU e p c v) p := by
  obtain ⟨h1, h2, h3⟩ := h
  have e11 : puU e p c v 308 = e 308 := puU_out (by omega) (by omega)
  refine ⟨by rw [e11]; exact h1, fun q hq => ?_, by rw [e11]; exact h3⟩
  rw [e11] at hq
  by_cases eq : q = p
  · rw [eq, puU_cnt]; omega
  · rw [puU_out (by omega) (by rcases Nat.lt_or_gt_of_ne eq with h | h <;> omega)]; exact h2 q hq
/-- the class's error -/
def ER (I : F2) (c : Int) (s : Nat) : Prop := I 111 6 = c ∧ I 111 7 = (s : Int)
theorem ER.mk {I : F2} {c : Int} {s : Nat} : ER (up2 (up2 I 111 6 c) 111 7 (s : Int)) c s := ⟨by rw [up2_ne2 _ _ _ _ (by decide), up2_same], up2_same _ _ _ _⟩
def onlyI (R : Nat) (I I' : F2) : Prop := (∀ a, a ≠ 111 → a ≠ R + 2 → a ≠ R + 3 → I' a = I a) ∧ I' 111 2 = I 111 2
theorem onlyI.refl (R : Nat) (I : F2) : onlyI R I I := ⟨fun _ _ _ _ => rfl, rfl⟩
theorem onlyI.trans {R : Nat} {I I' I2 : F2} (h : onlyI R I I') (h2 : onlyI R I' I2) : onlyI R I I2 := ⟨fun a h3 h4 h5 => (h2.1 a h3 h4 h5).trans (h.1 a h3 h4 h5), h2.2.trans h.2⟩
theorem onlyT.i {R : Nat} {I I' : F2} (h : onlyT I I') : onlyI R I I' := ⟨fun a h3 _ _ => h.1 a h3, h.2⟩
theorem onlyR.i {R : Nat} {I I' : F2} (hR : 113 < R) (h : onlyR R I I') : onlyI R I I' := ⟨fun a _ h4 h5 => h a h4 h5, congrFun (h 111 (by omega) (by omega)) 2⟩
/-- outcome of an item: the draft at R holds the row, or there is an error -/
def CI (P : F2 → F1 → Prop) (R : Nat) (I I' : F2) (n : Nat) (put : F1 → F1) (r : (Nat × F1) ⊕ (Int × Nat)) (z : Int) : Prop := onlyI R I I' ∧ match r with
  | .inl (e, v) => z = 1 ∧ I' 111 3 = (e : Int) ∧ e ≤ n ∧ I' 111 7 = I 111 7 ∧ P I' (put v)
  | .inr (c, s) => z = 0 ∧ ER I' c s
theorem PRep.t {I I' J : F2} {R : Nat} {g : F1} (h : PRep I J R g) (hR : 113 < R) (e : onlyT I I') : PRep I' J R g := by
  unfold PRep; rw [e.1 R (by omega), e.1 (R + 2) (by omega), e.1 (R + 3) (by omega)]; exact h
theorem IRep.t {I I' J : F2} {R : Nat} {g : F1} (h : IRep I J R g) (hR : 113 < R) (e : onlyT I I') : IRep I' J R g := by
  unfold IRep; rw [e.1 R (by omega), e.1 (R + 2) (by omega), e.1 (R + 3) (by omega)]; exact h
theorem rw_T {I I' : F2} (h1 : ∀ a, a ≠ 111 → I' a = I a) (h2 : ∀ f, f ≠ 3 → f ≠ 4 → I' 111 f = I 111 f) : onlyT I I' := ⟨h1, h2 2 (by decide) (by decide)⟩
theorem pk_T {I I' : F2} (h1 : ∀ a, a ≠ 111 → I' a = I a) (h2 : ∀ f, f ≠ 3 → I' 111 f = I 111 f) : onlyT I I' := ⟨h1, h2 2 (by decide)⟩
theorem lp_shp (X : AX) (I J : Nat → Nat → Int) (cc ss : Nat) (I0 : F2) (p c w m : Nat) (wd kd la : Int) {v : F1} (v8 : Int) (hkd : 0 ≤ kd ∧ kd ≤ 2) (hwm : (w : Int) + m = la + 1) (hw1 : 1 ≤ w) (hla : la ≤ 5) {tx : F1} {n : Nat} (hT : TB I tx n) (hn : I 111 2 = (n : Int)) (q : Nat) (hp : I 111 3 = (q : Int)) (hkn : q ≤ n) {e : F1} (dP : PRep I J 118 (puS e p c v)) (hPK : PK e p) (hc6 : c < 6) (hO : onlyI 118 I0 I) (h70 : I 111 7 = I0 111 7) : Ev X k_X4_readShape (105, [some (vr 111), some (vi (p : Int)), some (vl wd), none, some (vi kd), some (vi (c : Int)), some (vi la), some (vi (w : Int))], []) (MS I J cc ss) (PZ cc ss (fun z I' J' => J' = J ∧ CI (fun I d => PRep I J 118 d) 118 I0 I' n (puS e p c) (pNs tx n kd m w q v) z)) := by
  have hPK9 := hPK.pu (v := v) hc6
  have hp9 := hPK.2.2
  have hp8 := hPK.1
  have hlr := lowF_rng kd w
  have hhr := highF_rng kd w
  refine ev_n (fr' := (109, [some (vr 111), some (vi (p : Int)), some (vl wd), none, some (vi kd), some (vi (c : Int)), some (vi la), some (vi (w : Int))], [vi la, vi (w : Int)])) (S' := MS I J cc ss) 2 rfl ?_
  refine ev_ic (c := .gt) (off := 51) rfl (by decide) (fun (g1 : la < (w : Int)) => ?_) (fun (g1 : ¬ (la < (w : Int))) => ?_)
  · show Ev X k_X4_readShape (160, [some (vr 111), some (vi (p : Int)), some (vl wd), none, some (vi kd), some (vi (c : Int)), some (vi la), some (vi (w : Int))], []) (MS I J cc ss) _
    refine ev_n (fr' := (161, [some (vr 111), some (vi (p : Int)), some (vl wd), none, some (vi kd), some (vi (c : Int)), some (vi la), some (vi (w : Int))], [vi 1])) (S' := MS I J cc ss) 1 rfl ?_
    refine ev_r rfl rfl rfl ?_
    have e0 : m = 0 := by omega
    subst e0
    exact ⟨_, _, _, rfl, rfl, rfl, hO, rfl, hp, hkn, h70, dP⟩
  · show Ev X k_X4_readShape (112, [some (vr 111), some (vi (p : Int)), some (vl wd), none, some (vi kd), some (vi (c : Int)), some (vi la), some (vi (w : Int))], []) (MS I J cc ss) _
    refine ev_n (fr' := (117, [some (vr 111), some (vi (p : Int)), some (vl wd), none, some (vi kd), some (vi (c : Int)), some (vi la), some (vi (w : Int))], [vi (w : Int), vi kd, vr 111])) (S' := MS I J cc ss) 3 rfl ?_
    refine ev_cv rfl rfl rfl ⟨Nat.le_of_ble_eq_true rfl, Nat.le_of_ble_eq_true rfl⟩ (sp_leastOf X _ kd (w : Int) (by omega)) ?_
    show Ev X k_X4_readShape (120, [some (vr 111), some (vi (p : Int)), some (vl wd), none, some (vi kd), some (vi (c : Int)), some (vi la), some (vi (w : Int))], [vi (lowF kd (w : Int)), vr 111]) (MS I J cc ss) _
    refine ev_n (fr' := (124, [some (vr 111), some (vi (p : Int)), some (vl wd), none, some (vi kd), some (vi (c : Int)), some (vi la), some (vi (w : Int))], [vi (w : Int), vi kd, vi (lowF kd (w : Int)), vr 111])) (S' := MS I J cc ss) 2 rfl ?_
    refine ev_cv rfl rfl rfl ⟨Nat.le_of_ble_eq_true rfl, Nat.le_of_ble_eq_true rfl⟩ (sp_greatestOf X _ kd (w : Int) (by omega)) ?_
    show Ev X k_X4_readShape (127, [some (vr 111), some (vi (p : Int)), some (vl wd), none, some (vi kd), some (vi (c : Int)), some (vi la), some (vi (w : Int))], [vi (highF kd (w : Int)), vi (lowF kd (w : Int)), vr 111]) (MS I J cc ss) _
    refine ev_cz rfl rfl rfl ⟨Nat.le_of_ble_eq_true rfl, Nat.le_of_ble_eq_true rfl⟩ (sp_readNumber_u X _ _ _ _ (lowF kd (w : Int)) (highF kd (w : Int)) (by omega) (by omega) hT hn q hp hkn (by omega)) (fun z1 I1 J q2 => ?_)
    obtain ⟨rfl, rT1, hz9⟩ := q2
    rcases hr1 : pnF tx n (lowF kd (w : Int)) (highF kd (w : Int)) q with ⟨e1, v1⟩ | ⟨c1, s1⟩ <;> rw [hr1] at hz9
    · obtain ⟨rfl, hp, hv1, hkn, h71, hq41⟩ := hz9
      have hn := rT1.2.trans hn
      have hT := hT.t rT1
      show Ev X k_X4_readShape (130, [some (vr 111), some (vi (p : Int)), some (vl wd), none, some (vi kd), some (vi (c : Int)), some (vi la), some (vi (w : Int))], [vi 1]) (MS I1 J cc ss) _
      refine ev_n (fr' := (135, [some (vr 111), some (vi (p : Int)), some (vl wd), none, some (vi kd), some (vi (c : Int)), some (vi la), some (vi (w : Int))], [])) (S' := MS I1 J cc ss) 1 rfl ?_
      have dP := dP.t (by decide) rT1
      refine ev_n (fr' := (151, [some (vr 111), some (vi (p : Int)), some (vl wd), none, some (vi kd), some (vi (c : Int)), some (vi la), some (vi (w : Int))], [vi (I1 111 5), vi (w : Int), vi (c : Int), vi (p : Int), vr 118])) (S' := MS I1 J cc ss) 8 rfl ?_
      refine ev_eqi (hv1) ?_
      show Ev X k_X4_readShape (151, [some (vr 111), some (vi (p : Int)), some (vl wd), none, some (vi kd), some (vi (c : Int)), some (vi la), some (vi (w : Int))], [vi v1, vi (w : Int), vi (c : Int), vi (p : Int), vr 118]) (MS I1 J cc ss) _
      refine ev_cv rfl rfl rfl ⟨Nat.le_of_ble_eq_true rfl, Nat.le_of_ble_eq_true rfl⟩ (sp_putNumber_118 X _ _ _ _ p c w v1 dP hPK9.1 hPK9.2.1 hPK9.2.2 (by rw [puS_cnt]; omega) (by omega)) ?_
      show Ev X k_X4_readShape (154, [some (vr 111), some (vi (p : Int)), some (vl wd), none, some (vi kd), some (vi (c : Int)), some (vi la), some (vi (w : Int))], []) (MS (up2 I1 121 (36 * p + 6 * c + w) v1) J cc ss) _
      refine ev_inc (z := (w : Int) + 1) rfl rfl (by omega) (by omega) (by omega) rfl ?_
      show Ev X k_X4_readShape (157, [some (vr 111), some (vi (p : Int)), some (vl wd), none, some (vi kd), some (vi (c : Int)), some (vi la), some (vi ((w : Int) + 1))], []) (MS (up2 I1 121 (36 * p + 6 * c + w) v1) J cc ss) _
      refine ev_n (fr' := (105, [some (vr 111), some (vi (p : Int)), some (vl wd), none, some (vi kd), some (vi (c : Int)), some (vi la), some (vi ((w : Int) + 1))], [])) (S' := MS (up2 I1 121 (36 * p + 6 * c + w) v1) J cc ss) 1 rfl ?_
      have dP2 := PRep.put (v := v1) (s := c) (w := w) dP hPK9.2.2 hPK9.1 hPK9.2.1 (by rw [puS_cnt]; omega) (by omega)
      rw [puS_upd (by omega)] at dP2
      obtain ⟨m2, rfl⟩ : ∃ m2, m = m2 + 1 := ⟨m - 1, by omega⟩
      have hX : pNs tx n kd (m2 + 1) w q v = pNs tx n kd m2 (w + 1) e1 (upd1 v w v1) := by
        show (match pnF tx n (lowF kd w) (highF kd w) q with | .inl (e, z) => pNs tx n kd m2 (w + 1) e (upd1 v w z) | .inr x => .inr x) = _
        rw [hr1]
      rw [hX]
      exact lp_shp X _ _ cc ss I0 p c (w + 1) m2 wd kd la v8 hkd (by omega) (by omega) (by omega) (hT.cell (up2_row _ _ _ _ (by decide)) (up2_row _ _ _ _ (by decide))) ((congrFun (up2_row _ _ _ _ (by decide)) _).trans hn) e1 ((congrFun (up2_row _ _ _ _ (by decide)) _).trans hp) hkn dP2 hPK hc6 ⟨fun a h1 h2 h3 => (up2_row _ _ _ _ h3).trans ((rT1.1 a h1).trans (hO.1 a h1 h2 h3)), (congrFun (up2_row _ _ _ _ (by decide)) _).trans (rT1.2.trans hO.2)⟩ ((congrFun (up2_row _ _ _ _ (by decide)) _).trans (h71.trans h70))
    · obtain ⟨rfl, hE⟩ := hz9
      show Ev X k_X4_readShape (130, [some (vr 111), some (vi (p : Int)), some (vl wd), none, some (vi kd), some (vi (c : Int)), some (vi la), some (vi (w : Int))], [vi 0]) (MS I1 J cc ss) _
      refine ev_n (fr' := (134, [some (vr 111), some (vi (p : Int)), some (vl wd), none, some (vi kd), some (vi (c : Int)), some (vi la), some (vi (w : Int))], [vi 0])) (S' := MS I1 J cc ss) 2 rfl ?_
      refine ev_r rfl rfl rfl ?_
      obtain ⟨m2, rfl⟩ : ∃ m2, m = m2 + 1 := ⟨m - 1, by omega⟩
      have hX : pNs tx n kd (m2 + 1) w q v = .inr (c1, s1) := by
        show (match pnF tx n (lowF kd w) (highF kd w) q with | .inl (e, z) => pNs tx n kd m2 (w + 1) e (upd1 v w z) | .inr x => .inr x) = _
        rw [hr1]
      exact ⟨_, _, _, rfl, rfl, rfl, hO.trans rT1.i, by rw [hX]; exact ⟨rfl, hE⟩⟩
termination_by m
decreasing_by all_goals omega
theorem sp_readShape (X : AX) (I J : Nat → Nat → Int) (cc ss : Nat) (p c : Nat) {tx : F1} {n : Nat} (hT : TB I tx n) (hn : I 111 2 = (n : Int)) (q : Nat) (hp : I 111 3 = (q : Int)) (hkn : q ≤ n) {e : F1} (dP : PRep I J 118 e) (hPK : PK e p) (hc : e (37 * p + 12) = (c : Int)) (hc6 : c < 6) : Ev X k_X4_readShape (0, [some (vr 111), some (vi (p : Int)), none, none, none, none, none, none], []) (MS I J cc ss) (PZ cc ss (fun z I' J' => J' = J ∧ CI (fun I d => PRep I J 118 d) 118 I I' n (puS e p c) (pSh tx n (spF tx n q)) z)) := by
  refine ev_n (fr' := (1, [some (vr 111), some (vi (p : Int)), none, none, none, none, none, none], [vr 111])) (S' := MS I J cc ss) 1 rfl ?_
  refine ev_cp rfl rfl rfl ⟨Nat.le_of_ble_eq_true rfl, Nat.le_of_ble_eq_true rfl⟩ (sp_readWord X _ _ _ _ hT hn q hp hkn) (fun I1 J q2 => ?_)
  obtain ⟨rfl, rAI1, rBI1, hp, hq4⟩ := q2
  show Ev X k_X4_readShape (4, [some (vr 111), some (vi (p : Int)), none, none, none, none, none, none], [vl (wdF tx n (spF tx n q))]) (MS I1 J cc ss) _
  have hn := (rBI1 2 (by decide) (by decide)).trans hn
  have hT := hT.cell (rAI1 112 (by decide)) (rAI1 113 (by decide))
  have hkn := leF_le (tx := tx) (n := n) (spF tx n q) (spF_le (tx := tx) (n := n) q hkn)
  have hT0 := rw_T rAI1 rBI1
  have h70 := rBI1 7 (by decide) (by decide)
  have dP := dP.t (by decide) hT0
  refine ev_n (fr' := (9, [some (vr 111), some (vi (p : Int)), some (vl (wdF tx n (spF tx n q))), none, none, none, none, none], [vl 2098, vl (wdF tx n (spF tx n q))])) (S' := MS I1 J cc ss) 3 rfl ?_
  refine ev_lc (c := .ne) (off := 7) rfl rfl (by decide) (fun (g1 : (wdF tx n (spF tx n q)) ≠ 2098) => ?_) (fun (g1 : ¬ ((wdF tx n (spF tx n q)) ≠ 2098)) => ?_)
  · show Ev X k_X4_readShape (17, [some (vr 111), some (vi (p : Int)), some (vl (wdF tx n (spF tx n q))), none, none, none, none, none], []) (MS I1 J cc ss) _
    refine ev_n (fr' := (21, [some (vr 111), some (vi (p : Int)), some (vl (wdF tx n (spF tx n q))), none, none, none, none, none], [vl 2552, vl (wdF tx n (spF tx n q))])) (S' := MS I1 J cc ss) 2 rfl ?_
    refine ev_lc (c := .ne) (off := 7) rfl rfl (by decide) (fun (g2 : (wdF tx n (spF tx n q)) ≠ 2552) => ?_) (fun (g2 : ¬ ((wdF tx n (spF tx n q)) ≠ 2552)) => ?_)
    · show Ev X k_X4_readShape (29, [some (vr 111), some (vi (p : Int)), some (vl (wdF tx n (spF tx n q))), none, none, none, none, none], []) (MS I1 J cc ss) _
      refine ev_n (fr' := (33, [some (vr 111), some (vi (p : Int)), some (vl (wdF tx n (spF tx n q))), none, none, none, none, none], [vl 402885, vl (wdF tx n (spF tx n q))])) (S' := MS I1 J cc ss) 2 rfl ?_
      refine ev_lc (c := .ne) (off := 7) rfl rfl (by decide) (fun (g3 : (wdF tx n (spF tx n q)) ≠ 402885) => ?_) (fun (g3 : ¬ ((wdF tx n (spF tx n q)) ≠ 402885)) => ?_)
      · show Ev X k_X4_readShape (41, [some (vr 111), some (vi (p : Int)), some (vl (wdF tx n (spF tx n q))), none, none, none, none, none], []) (MS I1 J cc ss) _
        refine ev_n (fr' := (57, [some (vr 111), some (vi (p : Int)), some (vl (wdF tx n (spF tx n q))), none, some (vi (-1)), none, none, none], [vi (I1 111 4), vi (-2), vr 111])) (S' := MS I1 J cc ss) 9 rfl ?_
        refine ev_eqi (hq4) ?_
        show Ev X k_X4_readShape (57, [some (vr 111), some (vi (p : Int)), some (vl (wdF tx n (spF tx n q))), none, some (vi (-1)), none, none, none], [vi ((spF tx n q) : Int), vi (-2), vr 111]) (MS I1 J cc ss) _
        refine ev_cv rfl rfl rfl ⟨Nat.le_of_ble_eq_true rfl, Nat.le_of_ble_eq_true rfl⟩ (sp_fail X _ _ _ _ (-2) ((spF tx n q) : Int)) ?_
        show Ev X k_X4_readShape (60, [some (vr 111), some (vi (p : Int)), some (vl (wdF tx n (spF tx n q))), none, some (vi (-1)), none, none, none], [vi 0]) (MS (up2 (up2 I1 111 6 (-2)) 111 7 ((spF tx n q) : Int)) J cc ss) _
        refine ev_r rfl rfl rfl ?_
        have hKW : kdW (wdF tx n (spF tx n q)) = -1 := by unfold kdW; rw [if_neg (by omega), if_neg (by omega), if_neg (by omega)]
        have hX : pSh tx n (spF tx n q) = .inr (-2, (spF tx n q)) := by unfold pSh; rw [hKW, if_pos rfl]
        exact ⟨_, _, _, rfl, rfl, rfl, ⟨fun a h1 _ _ => by rw [up2_row _ _ _ _ h1, up2_row _ _ _ _ h1]; exact hT0.1 a h1, by rw [up2_ne2 _ _ _ _ (by decide), up2_ne2 _ _ _ _ (by decide)]; exact hT0.2⟩, by rw [hX]; exact ⟨rfl, ER.mk⟩⟩
      · show Ev X k_X4_readShape (37, [some (vr 111), some (vi (p : Int)), some (vl (wdF tx n (spF tx n q))), none, none, none, none, none], []) (MS I1 J cc ss) _
        refine ev_n (fr' := (69, [some (vr 111), some (vi (p : Int)), some (vl (wdF tx n (spF tx n q))), none, some (vi 2), none, none, none], [vi (p : Int), vr 118])) (S' := MS I1 J cc ss) 10 rfl ?_
        refine ev_cp rfl rfl rfl ⟨Nat.le_of_ble_eq_true rfl, Nat.le_of_ble_eq_true rfl⟩ (sp_addItem_118 X _ _ _ _ p c dP hPK.1 hPK.2.1 hPK.2.2 hc hc6) (fun I3 J q4 => ?_)
        obtain ⟨rfl, rR, dP⟩ := q4
        show Ev X k_X4_readShape (72, [some (vr 111), some (vi (p : Int)), some (vl (wdF tx n (spF tx n q))), none, some (vi 2), none, none, none], [vi (c : Int)]) (MS I3 J cc ss) _
        rw [puS_0] at dP
        have hPK9 := hPK.pu (v := fun _ => 0) hc6
        have hp9 := hPK.2.2
        have hp8 := hPK.1
        refine ev_n (fr' := (87, [some (vr 111), some (vi (p : Int)), some (vl (wdF tx n (spF tx n q))), none, some (vi 2), some (vi (c : Int)), none, none], [vi 2, vi 0, vi (c : Int), vi (p : Int), vr 118])) (S' := MS I3 J cc ss) 8 rfl ?_
        refine ev_cv rfl rfl rfl ⟨Nat.le_of_ble_eq_true rfl, Nat.le_of_ble_eq_true rfl⟩ (sp_putNumber_118 X _ _ _ _ p c 0 2 dP hPK9.1 hPK9.2.1 hPK9.2.2 (by rw [puS_cnt]; omega) (by omega)) ?_
        show Ev X k_X4_readShape (90, [some (vr 111), some (vi (p : Int)), some (vl (wdF tx n (spF tx n q))), none, some (vi 2), some (vi (c : Int)), none, none], []) (MS (up2 I3 121 (36 * p + 6 * c) 2) J cc ss) _
        have dP := PRep.put (v := 2) (s := c) (w := 0) dP hPK9.2.2 hPK9.1 hPK9.2.1 (by rw [puS_cnt]; omega) (by omega)
        rw [puS_v0] at dP
        refine ev_n (fr' := (105, [some (vr 111), some (vi (p : Int)), some (vl (wdF tx n (spF tx n q))), none, some (vi 2), some (vi (c : Int)), some (vi 5), some (vi 1)], [])) (S' := MS (up2 I3 121 (36 * p + 6 * c) 2) J cc ss) 6 rfl ?_
        have hKW : kdW (wdF tx n (spF tx n q)) = 2 := by unfold kdW; rw [if_neg (by omega), if_neg (by omega), if_pos (by omega)]
        have hX : pSh tx n (spF tx n q) = pNs tx n 2 5 1 (leF tx n (spF tx n q)) (v0F 2) := by unfold pSh; rw [hKW]; rfl
        rw [hX]
        exact lp_shp X _ _ cc ss I p c 1 5 _ 2 5 0 (by omega) (by omega) (by omega) (by omega) (hT.cell ((up2_row _ _ _ _ (by decide)).trans (rR 112 (by decide) (by decide))) ((up2_row _ _ _ _ (by decide)).trans (rR 113 (by decide) (by decide)))) ((congrFun (up2_row _ _ _ _ (by decide)) _).trans ((congrFun (rR 111 (by decide) (by decide)) _).trans hn)) _ ((congrFun (up2_row _ _ _ _ (by decide)) _).trans ((congrFun (rR 111 (by decide) (by decide)) _).trans hp)) hkn dP hPK hc6 ⟨fun a h1 h2 h3 => (up2_row _ _ _ _ h3).trans ((rR a h2 h3).trans (hT0.1 a h1)), (congrFun (up2_row _ _ _ _ (by decide)) _).trans ((congrFun (rR 111 (by decide) (by decide)) _).trans hT0.2)⟩ ((congrFun (up2_row _ _ _ _ (by decide)) _).trans ((congrFun (rR 111 (by decide) (by decide)) _).trans h70))
    · show Ev X k_X4_readShape (25, [some (vr 111), some (vi (p : Int)), some (vl (wdF tx n (spF tx n q))), none, none, none, none, none], []) (MS I1 J cc ss) _
      refine ev_n (fr' := (69, [some (vr 111), some (vi (p : Int)), some (vl (wdF tx n (spF tx n q))), none, some (vi 1), none, none, none], [vi (p : Int), vr 118])) (S' := MS I1 J cc ss) 10 rfl ?_
      refine ev_cp rfl rfl rfl ⟨Nat.le_of_ble_eq_true rfl, Nat.le_of_ble_eq_true rfl⟩ (sp_addItem_118 X _ _ _ _ p c dP hPK.1 hPK.2.1 hPK.2.2 hc hc6) (fun I5 J q6 => ?_)
      obtain ⟨rfl, rR, dP⟩ := q6
      show Ev X k_X4_readShape (72, [some (vr 111), some (vi (p : Int)), some (vl (wdF tx n (spF tx n q))), none, some (vi 1), none, none, none], [vi (c : Int)]) (MS I5 J cc ss) _
      rw [puS_0] at dP
      have hPK9 := hPK.pu (v := fun _ => 0) hc6
      have hp9 := hPK.2.2
      have hp8 := hPK.1
      refine ev_n (fr' := (87, [some (vr 111), some (vi (p : Int)), some (vl (wdF tx n (spF tx n q))), none, some (vi 1), some (vi (c : Int)), none, none], [vi 1, vi 0, vi (c : Int), vi (p : Int), vr 118])) (S' := MS I5 J cc ss) 8 rfl ?_
      refine ev_cv rfl rfl rfl ⟨Nat.le_of_ble_eq_true rfl, Nat.le_of_ble_eq_true rfl⟩ (sp_putNumber_118 X _ _ _ _ p c 0 1 dP hPK9.1 hPK9.2.1 hPK9.2.2 (by rw [puS_cnt]; omega) (by omega)) ?_
      show Ev X k_X4_readShape (90, [some (vr 111), some (vi (p : Int)), some (vl (wdF tx n (spF tx n q))), none, some (vi 1), some (vi (c : Int)), none, none], []) (MS (up2 I5 121 (36 * p + 6 * c) 1) J cc ss) _
      have dP := PRep.put (v := 1) (s := c) (w := 0) dP hPK9.2.2 hPK9.1 hPK9.2.1 (by rw [puS_cnt]; omega) (by omega)
      rw [puS_v0] at dP
      refine ev_n (fr' := (105, [some (vr 111), some (vi (p : Int)), some (vl (wdF tx n (spF tx n q))), none, some (vi 1), some (vi (c : Int)), some (vi 5), some (vi 1)], [])) (S' := MS (up2 I5 121 (36 * p + 6 * c) 1) J cc ss) 6 rfl ?_
      have hKW : kdW (wdF tx n (spF tx n q)) = 1 := by unfold kdW; rw [if_neg (by omega), if_pos (by omega)]
      have hX : pSh tx n (spF tx n q) = pNs tx n 1 5 1 (leF tx n (spF tx n q)) (v0F 1) := by unfold pSh; rw [hKW]; rfl
      rw [hX]
      exact lp_shp X _ _ cc ss I p c 1 5 _ 1 5 0 (by omega) (by omega) (by omega) (by omega) (hT.cell ((up2_row _ _ _ _ (by decide)).trans (rR 112 (by decide) (by decide))) ((up2_row _ _ _ _ (by decide)).trans (rR 113 (by decide) (by decide)))) ((congrFun (up2_row _ _ _ _ (by decide)) _).trans ((congrFun (rR 111 (by decide) (by decide)) _).trans hn)) _ ((congrFun (up2_row _ _ _ _ (by decide)) _).trans ((congrFun (rR 111 (by decide) (by decide)) _).trans hp)) hkn dP hPK hc6 ⟨fun a h1 h2 h3 => (up2_row _ _ _ _ h3).trans ((rR a h2 h3).trans (hT0.1 a h1)), (congrFun (up2_row _ _ _ _ (by decide)) _).trans ((congrFun (rR 111 (by decide) (by decide)) _).trans hT0.2)⟩ ((congrFun (up2_row _ _ _ _ (by decide)) _).trans ((congrFun (rR 111 (by decide) (by decide)) _).trans h70))
  · show Ev X k_X4_readShape (13, [some (vr 111), some (vi (p : Int)), some (vl (wdF tx n (spF tx n q))), none, none, none, none, none], []) (MS I1 J cc ss) _
    refine ev_n (fr' := (69, [some (vr 111), some (vi (p : Int)), some (vl (wdF tx n (spF tx n q))), none, some (vi 0), none, none, none], [vi (p : Int), vr 118])) (S' := MS I1 J cc ss) 10 rfl ?_
    refine ev_cp rfl rfl rfl ⟨Nat.le_of_ble_eq_true rfl, Nat.le_of_ble_eq_true rfl⟩ (sp_addItem_118 X _ _ _ _ p c dP hPK.1 hPK.2.1 hPK.2.2 hc hc6) (fun I7 J q8 => ?_)
    obtain ⟨rfl, rR, dP⟩ := q8
    show Ev X k_X4_readShape (72, [some (vr 111), some (vi (p : Int)), some (vl (wdF tx n (spF tx n q))), none, some (vi 0), none, none, none], [vi (c : Int)]) (MS I7 J cc ss) _
    rw [puS_0] at dP
    have hPK9 := hPK.pu (v := fun _ => 0) hc6
    have hp9 := hPK.2.2
    have hp8 := hPK.1
    refine ev_n (fr' := (87, [some (vr 111), some (vi (p : Int)), some (vl (wdF tx n (spF tx n q))), none, some (vi 0), some (vi (c : Int)), none, none], [vi 0, vi 0, vi (c : Int), vi (p : Int), vr 118])) (S' := MS I7 J cc ss) 8 rfl ?_
    refine ev_cv rfl rfl rfl ⟨Nat.le_of_ble_eq_true rfl, Nat.le_of_ble_eq_true rfl⟩ (sp_putNumber_118 X _ _ _ _ p c 0 0 dP hPK9.1 hPK9.2.1 hPK9.2.2 (by rw [puS_cnt]; omega) (by omega)) ?_
    show Ev X k_X4_readShape (90, [some (vr 111), some (vi (p : Int)), some (vl (wdF tx n (spF tx n q))), none, some (vi 0), some (vi (c : Int)), none, none], []) (MS (up2 I7 121 (36 * p + 6 * c) 0) J cc ss) _
    have dP := PRep.put (v := 0) (s := c) (w := 0) dP hPK9.2.2 hPK9.1 hPK9.2.1 (by rw [puS_cnt]; omega) (by omega)
    rw [puS_v0] at dP
    refine ev_n (fr' := (105, [some (vr 111), some (vi (p : Int)), some (vl (wdF tx n (spF tx n q))), none, some (vi 0), some (vi (c : Int)), some (vi 4), some (vi 1)], [])) (S' := MS (up2 I7 121 (36 * p + 6 * c) 0) J cc ss) 7 rfl ?_
    have hKW : kdW (wdF tx n (spF tx n q)) = 0 := by unfold kdW; rw [if_pos (by omega)]
    have hX : pSh tx n (spF tx n q) = pNs tx n 0 4 1 (leF tx n (spF tx n q)) (v0F 0) := by unfold pSh; rw [hKW]; rfl
    rw [hX]
    exact lp_shp X _ _ cc ss I p c 1 4 _ 0 4 0 (by omega) (by omega) (by omega) (by omega) (hT.cell ((up2_row _ _ _ _ (by decide)).trans (rR 112 (by decide) (by decide))) ((up2_row _ _ _ _ (by decide)).trans (rR 113 (by decide) (by decide)))) ((congrFun (up2_row _ _ _ _ (by decide)) _).trans ((congrFun (rR 111 (by decide) (by decide)) _).trans hn)) _ ((congrFun (up2_row _ _ _ _ (by decide)) _).trans ((congrFun (rR 111 (by decide) (by decide)) _).trans hp)) hkn dP hPK hc6 ⟨fun a h1 h2 h3 => (up2_row _ _ _ _ h3).trans ((rR a h2 h3).trans (hT0.1 a h1)), (congrFun (up2_row _ _ _ _ (by decide)) _).trans ((congrFun (rR 111 (by decide) (by decide)) _).trans hT0.2)⟩ ((congrFun (up2_row _ _ _ _ (by decide)) _).trans ((congrFun (rR 111 (by decide) (by decide)) _).trans h70))
