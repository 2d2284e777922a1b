/-! THE HISTORY (printed by gen/g52.py) -/
/-- the sets kept: hs 0 the oldest, m of them; what is kept when g is remembered -/
def remH (hs : Nat → F1) (m : Nat) (g : F1) (q : Nat) : F1 := if m = 8 then (if q < 7 then hs (q + 1) else g) else (if q = m then g else hs q)
def remM (m : Nat) : Nat := if m = 8 then 8 else m + 1
def rng8 (q : Nat) : Nat := 15 + 12 * (q % 8)
def Hist (I J : F2) (hs : Nat → F1) (m : Nat) : Prop := ∃ nx : Nat, nx < 8 ∧ I 13 1 = (nx : Int) ∧ I 13 2 = (m : Int) ∧ m ≤ 8 ∧ (∀ q, q < m → SetR I J (rng8 (nx + 8 - m + q)) (hs q)) ∧ ∀ q, q < 8 → WD I (rng8 q)
theorem rng8_lit (q : Nat) : 15 ≤ rng8 q ∧ rng8 q ≤ 99 := by unfold rng8; omega
theorem rng8_ne {p q : Nat} (h : p % 8 ≠ q % 8) : rng8 p + 12 ≤ rng8 q ∨ rng8 q + 12 ≤ rng8 p := by unfold rng8; omega
theorem Hist.cell {I I' J J' : F2} {hs : Nat → F1} {m : Nat} (h : Hist I J hs m) (e : ∀ c, 13 ≤ c → c < 111 → I' c = I c ∧ J' c = J c) : Hist I' J' hs m := by
  obtain ⟨nx, h1, h2, h3, h4, h5, h6⟩ := h
  refine ⟨nx, h1, by rw [(e 13 (by omega) (by omega)).1]; exact h2, by rw [(e 13 (by omega) (by omega)).1]; exact h3, h4, fun q hq => (h5 q hq).cell (fun c c1 c2 => ?_), fun q hq => ?_⟩
  · have := rng8_lit (nx + 8 - m + q); exact e c (by omega) (by omega)
  · have := rng8_lit q
    unfold WD; rw [(e _ (by omega) (by omega)).1, (e _ (by omega) (by omega)).1]; exact h6 q hq
/-- the class's history behind a remembering -/
theorem Hist.rem {I J I' J' : F2} {hs : Nat → F1} {m nx : Nat} {g : F1} (hr : rng8 nx = 15 + 12 * nx) (h1 : nx < 8) (h3 : m ≤ 8) (h5 : ∀ q, q < m → SetR I J (rng8 (nx + 8 - m + q)) (hs q)) (h6 : ∀ q, q < 8 → WD I (rng8 q)) (hS : SetR I J 1 g) (hw : WF g)
    (eI : ∀ c, c ≠ 13 → I' c = cpA I (15 + 12 * nx) 1 c) (eJ : J' = cpJ J (15 + 12 * nx) 1) (e1 : I' 13 1 = (((nx + 1) % 8 : Nat) : Int)) (e2 : I' 13 2 = (remM m : Int)) : Hist I' J' (remH hs m g) (remM m) ∧ SetR I' J' 1 g := by
  have hnew : SetR I' J' (15 + 12 * nx) g := by
    have h9 := cpA_rep (a := 15 + 12 * nx) (b := 1) hS hw (by omega) (by have := h6 nx h1; rw [hr] at this; exact this)
    exact h9.cell (fun c c1 c2 => ⟨eI c (by omega), by rw [eJ]⟩)
  have hold : ∀ q, q % 8 ≠ nx % 8 → ∀ f, SetR I J (rng8 q) f → SetR I' J' (rng8 q) f := fun q hq f hf => hf.cell (fun c c1 c2 => by
    have h8 := rng8_ne hq
    have h7 := rng8_lit q
    rw [hr] at h8
    rw [eI c (by omega), eJ, cpA_ne (by omega), cpJ_ne (by omega)]; exact ⟨rfl, rfl⟩)
  refine ⟨⟨(nx + 1) % 8, by omega, e1, e2, by unfold remM; split <;> omega, fun q hq => ?_, fun q hq => ?_⟩, hS.cell (fun c c1 c2 => by rw [eI c (by omega), eJ, cpA_ne (by omega), cpJ_ne (by omega)]; exact ⟨rfl, rfl⟩)⟩
  · unfold remM at hq ⊢
    unfold remH
    by_cases hm : m = 8
    · subst hm
      rw [if_pos rfl] at hq ⊢
      rw [if_pos rfl]
      by_cases h7 : q < 7
      · rw [if_pos h7]
        have h8 := hold (nx + 8 - 8 + (q + 1)) (by omega) _ (h5 (q + 1) (by omega))
        rw [show rng8 ((nx + 1) % 8 + 8 - 8 + q) = rng8 (nx + 8 - 8 + (q + 1)) by unfold rng8; omega]; exact h8
      · rw [if_neg h7, show rng8 ((nx + 1) % 8 + 8 - 8 + q) = 15 + 12 * nx by unfold rng8; omega]; exact hnew
    · rw [if_neg hm] at hq ⊢
      rw [if_neg hm]
      by_cases h7 : q = m
      · rw [if_pos h7, show rng8 ((nx + 1) % 8 + 8 - (m + 1) + q) = 15 + 12 * nx by unfold rng8; omega]; exact hnew
      · rw [if_neg h7]
        have h8 := hold (nx + 8 - m + q) (by omega) _ (h5 q (by omega))
        rw [show rng8 ((nx + 1) % 8 + 8 - (m + 1) + q) = rng8 (nx + 8 - m + q) by unfold rng8; omega]; exact h8
  · have h7 := rng8_lit q
    by_cases e : q % 8 = nx % 8
    · have : rng8 q = 15 + 12 * nx := by unfold rng8; omega
      rw [this]; exact hnew.wd
    · have h8 := rng8_ne e
      rw [hr] at h8
      have h9 := h6 q hq
      unfold WD at h9 ⊢
      rw [eI _ (by omega), eI _ (by omega), cpA_ne (by omega), cpA_ne (by omega)]; exact h9
/-- and behind a bringing back -/
theorem Hist.back {I J I' J' : F2} {hs : Nat → F1} {m nx lt : Nat} (hlt : lt = (nx + 7) % 8) (h1 : nx < 8) (h3 : m ≤ 8) (hm : 0 < m) (h5 : ∀ q, q < m → SetR I J (rng8 (nx + 8 - m + q)) (hs q)) (h6 : ∀ q, q < 8 → WD I (rng8 q)) (hS : WD I 1) (hw : WF (hs (m - 1)))
    (eI : ∀ c, c ≠ 13 → I' c = cpA I 1 (15 + 12 * lt) c) (eJ : J' = cpJ J 1 (15 + 12 * lt)) (e1 : I' 13 1 = (lt : Int)) (e2 : I' 13 2 = ((m - 1 : Nat) : Int)) : Hist I' J' hs (m - 1) ∧ SetR I' J' 1 (hs (m - 1)) := by
  have hl : rng8 (nx + 8 - m + (m - 1)) = 15 + 12 * lt := by unfold rng8; omega
  have hb := h5 (m - 1) (by omega)
  rw [hl] at hb
  have hold : ∀ q f, SetR I J (rng8 q) f → SetR I' J' (rng8 q) f := fun q f hf => hf.cell (fun c c1 c2 => by
    have h7 := rng8_lit q
    rw [eI c (by omega), eJ, cpA_ne (by omega), cpJ_ne (by omega)]; exact ⟨rfl, rfl⟩)
  refine ⟨⟨lt, by omega, e1, e2, by omega, fun q hq => ?_, fun q hq => ?_⟩, ?_⟩
  · have h8 := hold _ _ (h5 q (by omega))
    rw [show rng8 (lt + 8 - (m - 1) + q) = rng8 (nx + 8 - m + q) by unfold rng8; omega]; exact h8
  · have h7 := rng8_lit q
    have h9 := h6 q hq
    unfold WD at h9 ⊢
    rw [eI _ (by omega), eI _ (by omega), cpA_ne (by omega), cpA_ne (by omega)]; exact h9
  · have h9 := cpA_rep (a := 1) (b := 15 + 12 * lt) hb hw (by omega) hS
    exact h9.cell (fun c c1 c2 => ⟨eI c (by omega), by rw [eJ]⟩)
def onlyH (I I' J J' : F2) : Prop := (∀ c, (c < 13 ∨ 111 ≤ c) → I' c = I c) ∧ ∀ c, (c < 13 ∨ 111 ≤ c) → J' c = J c
theorem sp_at_0 (X : AX) (I J : Nat → Nat → Int) (cc ss : Nat) : Ev X k_X1_at (0, [some (vr 13), some (vi 0)], []) (MS I J cc ss) (fun o T => o = .inl (some (vr 15)) ∧ T = MS I J cc ss) := by
  refine ev_n (fr' := (4, [some (vr 13), some (vi 0)], [vi 7, vi 0, vi 0])) (S' := MS I J cc ss) 3 rfl ?_
  refine ev_cv rfl rfl rfl ⟨Nat.le_of_ble_eq_true rfl, Nat.le_of_ble_eq_true rfl⟩ (sp_within X _ 0 0 7 ) ?_
  show Ev X k_X1_at (7, [some (vr 13), some (vi 0)], [vi (if 0 ≤ 0 ∧ 0 ≤ 7 then 1 else 0)]) (MS I J cc ss) _
  refine ev_beq _ rfl (by decide) (fun (g1 : ¬ (0 ≤ 0 ∧ 0 ≤ 7)) => False.elim (by omega)) (fun (g1 : 0 ≤ 0 ∧ 0 ≤ 7) => ?_)
  show Ev X k_X1_at (10, [some (vr 13), some (vi 0)], []) (MS I J cc ss) _
  refine ev_n (fr' := (20, [some (vr 13), some (vi 0)], [vr 15])) (S' := MS I J cc ss) 5 rfl ?_
  refine ev_r rfl rfl rfl ?_
  exact ⟨rfl, rfl⟩
theorem sp_at_1 (X : AX) (I J : Nat → Nat → Int) (cc ss : Nat) : Ev X k_X1_at (0, [some (vr 13), some (vi 1)], []) (MS I J cc ss) (fun o T => o = .inl (some (vr 27)) ∧ T = MS I J cc ss) := by
  refine ev_n (fr' := (4, [some (vr 13), some (vi 1)], [vi 7, vi 0, vi 1])) (S' := MS I J cc ss) 3 rfl ?_
  refine ev_cv rfl rfl rfl ⟨Nat.le_of_ble_eq_true rfl, Nat.le_of_ble_eq_true rfl⟩ (sp_within X _ 1 0 7 ) ?_
  show Ev X k_X1_at (7, [some (vr 13), some (vi 1)], [vi (if 0 ≤ 1 ∧ 1 ≤ 7 then 1 else 0)]) (MS I J cc ss) _
  refine ev_beq _ rfl (by decide) (fun (g1 : ¬ (0 ≤ 1 ∧ 1 ≤ 7)) => False.elim (by omega)) (fun (g1 : 0 ≤ 1 ∧ 1 ≤ 7) => ?_)
  show Ev X k_X1_at (10, [some (vr 13), some (vi 1)], []) (MS I J cc ss) _
  refine ev_n (fr' := (20, [some (vr 13), some (vi 1)], [vr 27])) (S' := MS I J cc ss) 5 rfl ?_
  refine ev_r rfl rfl rfl ?_
  exact ⟨rfl, rfl⟩
theorem sp_at_2 (X : AX) (I J : Nat → Nat → Int) (cc ss : Nat) : Ev X k_X1_at (0, [some (vr 13), some (vi 2)], []) (MS I J cc ss) (fun o T => o = .inl (some (vr 39)) ∧ T = MS I J cc ss) := by
  refine ev_n (fr' := (4, [some (vr 13), some (vi 2)], [vi 7, vi 0, vi 2])) (S' := MS I J cc ss) 3 rfl ?_
  refine ev_cv rfl rfl rfl ⟨Nat.le_of_ble_eq_true rfl, Nat.le_of_ble_eq_true rfl⟩ (sp_within X _ 2 0 7 ) ?_
  show Ev X k_X1_at (7, [some (vr 13), some (vi 2)], [vi (if 0 ≤ 2 ∧ 2 ≤ 7 then 1 else 0)]) (MS I J cc ss) _
  refine ev_beq _ rfl (by decide) (fun (g1 : ¬ (0 ≤ 2 ∧ 2 ≤ 7)) => False.elim (by omega)) (fun (g1 : 0 ≤ 2 ∧ 2 ≤ 7) => ?_)
  show Ev X k_X1_at (10, [some (vr 13), some (vi 2)], []) (MS I J cc ss) _
  refine ev_n (fr' := (20, [some (vr 13), some (vi 2)], [vr 39])) (S' := MS I J cc ss) 5 rfl ?_
  refine ev_r rfl rfl rfl ?_
  exact ⟨rfl, rfl⟩
theorem sp_at_3 (X : AX) (I J : Nat → Nat → Int) (cc ss : Nat) : Ev X k_X1_at (0, [some (vr 13), some (vi 3)], []) (MS I J cc ss) (fun o T => o = .inl (some (vr 51)) ∧ T = MS I J cc ss) := by
  refine ev_n (fr' := (4, [some (vr 13), some (vi 3)], [vi 7, vi 0, vi 3])) (S' := MS I J cc ss) 3 rfl ?_
  refine ev_cv rfl rfl rfl ⟨Nat.le_of_ble_eq_true rfl, Nat.le_of_ble_eq_true rfl⟩ (sp_within X _ 3 0 7 ) ?_
  show Ev X k_X1_at (7, [some (vr 13), some (vi 3)], [vi (if 0 ≤ 3 ∧ 3 ≤ 7 then 1 else 0)]) (MS I J cc ss) _
  refine ev_beq _ rfl (by decide) (fun (g1 : ¬ (0 ≤ 3 ∧ 3 ≤ 7)) => False.elim (by omega)) (fun (g1 : 0 ≤ 3 ∧ 3 ≤ 7) => ?_)
  show Ev X k_X1_at (10, [some (vr 13), some (vi 3)], []) (MS I J cc ss) _
  refine ev_n (fr' := (20, [some (vr 13), some (vi 3)], [vr 51])) (S' := MS I J cc ss) 5 rfl ?_
  refine ev_r rfl rfl rfl ?_
  exact ⟨rfl, rfl⟩
theorem sp_at_4 (X : AX) (I J : Nat → Nat → Int) (cc ss : Nat) : Ev X k_X1_at (0, [some (vr 13), some (vi 4)], []) (MS I J cc ss) (fun o T => o = .inl (some (vr 63)) ∧ T = MS I J cc ss) := by
  refine ev_n (fr' := (4, [some (vr 13), some (vi 4)], [vi 7, vi 0, vi 4])) (S' := MS I J cc ss) 3 rfl ?_
  refine ev_cv rfl rfl rfl ⟨Nat.le_of_ble_eq_true rfl, Nat.le_of_ble_eq_true rfl⟩ (sp_within X _ 4 0 7 ) ?_
  show Ev X k_X1_at (7, [some (vr 13), some (vi 4)], [vi (if 0 ≤ 4 ∧ 4 ≤ 7 then 1 else 0)]) (MS I J cc ss) _
  refine ev_beq _ rfl (by decide) (fun (g1 : ¬ (0 ≤ 4 ∧ 4 ≤ 7)) => False.elim (by omega)) (fun (g1 : 0 ≤ 4 ∧ 4 ≤ 7) => ?_)
  show Ev X k_X1_at (10, [some (vr 13), some (vi 4)], []) (MS I J cc ss) _
  refine ev_n (fr' := (20, [some (vr 13), some (vi 4)], [vr 63])) (S' := MS I J cc ss) 5 rfl ?_
  refine ev_r rfl rfl rfl ?_
  exact ⟨rfl, rfl⟩
theorem sp_at_5 (X : AX) (I J : Nat → Nat → Int) (cc ss : Nat) : Ev X k_X1_at (0, [some (vr 13), some (vi 5)], []) (MS I J cc ss) (fun o T => o = .inl (some (vr 75)) ∧ T = MS I J cc ss) := by
  refine ev_n (fr' := (4, [some (vr 13), some (vi 5)], [vi 7, vi 0, vi 5])) (S' := MS I J cc ss) 3 rfl ?_
  refine ev_cv rfl rfl rfl ⟨Nat.le_of_ble_eq_true rfl, Nat.le_of_ble_eq_true rfl⟩ (sp_within X _ 5 0 7 ) ?_
  show Ev X k_X1_at (7, [some (vr 13), some (vi 5)], [vi (if 0 ≤ 5 ∧ 5 ≤ 7 then 1 else 0)]) (MS I J cc ss) _
  refine ev_beq _ rfl (by decide) (fun (g1 : ¬ (0 ≤ 5 ∧ 5 ≤ 7)) => False.elim (by omega)) (fun (g1 : 0 ≤ 5 ∧ 5 ≤ 7) => ?_)
  show Ev X k_X1_at (10, [some (vr 13), some (vi 5)], []) (MS I J cc ss) _
  refine ev_n (fr' := (20, [some (vr 13), some (vi 5)], [vr 75])) (S' := MS I J cc ss) 5 rfl ?_
  refine ev_r rfl rfl rfl ?_
  exact ⟨rfl, rfl⟩
theorem sp_at_6 (X : AX) (I J : Nat → Nat → Int) (cc ss : Nat) : Ev X k_X1_at (0, [some (vr 13), some (vi 6)], []) (MS I J cc ss) (fun o T => o = .inl (some (vr 87)) ∧ T = MS I J cc ss) := by
  refine ev_n (fr' := (4, [some (vr 13), some (vi 6)], [vi 7, vi 0, vi 6])) (S' := MS I J cc ss) 3 rfl ?_
  refine ev_cv rfl rfl rfl ⟨Nat.le_of_ble_eq_true rfl, Nat.le_of_ble_eq_true rfl⟩ (sp_within X _ 6 0 7 ) ?_
  show Ev X k_X1_at (7, [some (vr 13), some (vi 6)], [vi (if 0 ≤ 6 ∧ 6 ≤ 7 then 1 else 0)]) (MS I J cc ss) _
  refine ev_beq _ rfl (by decide) (fun (g1 : ¬ (0 ≤ 6 ∧ 6 ≤ 7)) => False.elim (by omega)) (fun (g1 : 0 ≤ 6 ∧ 6 ≤ 7) => ?_)
  show Ev X k_X1_at (10, [some (vr 13), some (vi 6)], []) (MS I J cc ss) _
  refine ev_n (fr' := (20, [some (vr 13), some (vi 6)], [vr 87])) (S' := MS I J cc ss) 5 rfl ?_
  refine ev_r rfl rfl rfl ?_
  exact ⟨rfl, rfl⟩
theorem sp_at_7 (X : AX) (I J : Nat → Nat → Int) (cc ss : Nat) : Ev X k_X1_at (0, [some (vr 13), some (vi 7)], []) (MS I J cc ss) (fun o T => o = .inl (some (vr 99)) ∧ T = MS I J cc ss) := by
  refine ev_n (fr' := (4, [some (vr 13), some (vi 7)], [vi 7, vi 0, vi 7])) (S' := MS I J cc ss) 3 rfl ?_
  refine ev_cv rfl rfl rfl ⟨Nat.le_of_ble_eq_true rfl, Nat.le_of_ble_eq_true rfl⟩ (sp_within X _ 7 0 7 ) ?_
  show Ev X k_X1_at (7, [some (vr 13), some (vi 7)], [vi (if 0 ≤ 7 ∧ 7 ≤ 7 then 1 else 0)]) (MS I J cc ss) _
  refine ev_beq _ rfl (by decide) (fun (g1 : ¬ (0 ≤ 7 ∧ 7 ≤ 7)) => False.elim (by omega)) (fun (g1 : 0 ≤ 7 ∧ 7 ≤ 7) => ?_)
  show Ev X k_X1_at (10, [some (vr 13), some (vi 7)], []) (MS I J cc ss) _
  refine ev_n (fr' := (20, [some (vr 13), some (vi 7)], [vr 99])) (S' := MS I J cc ss) 5 rfl ?_
  refine ev_r rfl rfl rfl ?_
  exact ⟨rfl, rfl⟩
theorem sp_rem_0 (X : AX) (I J : Nat → Nat → Int) (cc ss : Nat) {hs : Nat → F1} {m : Nat} {g : F1} (hn : I 13 1 = 0) (hk : I 13 2 = (m : Int)) (hm : m ≤ 8) (h5 : ∀ q, q < m → SetR I J (rng8 (0 + 8 - m + q)) (hs q)) (h6 : ∀ q, q < 8 → WD I (rng8 q)) (hS : SetR I J 1 g) (hw : WF g) : Ev X k_X1_remember (0, [some (vr 13), some (vr 1), none], []) (MS I J cc ss) (PV cc ss none (fun I' J' => onlyH I I' J J' ∧ Hist I' J' (remH hs m g) (remM m) ∧ SetR I' J' 1 g)) := by
  refine ev_n (fr' := (5, [some (vr 13), some (vr 1), none], [vi (I 13 1), vr 13])) (S' := MS I J cc ss) 3 rfl ?_
  refine ev_eqi (hn) ?_
  show Ev X k_X1_remember (5, [some (vr 13), some (vr 1), none], [vi 0, vr 13]) (MS I J cc ss) _
  refine ev_cv rfl rfl rfl ⟨Nat.le_of_ble_eq_true rfl, Nat.le_of_ble_eq_true rfl⟩ (sp_at_0 X _ _ _ _) ?_
  show Ev X k_X1_remember (8, [some (vr 13), some (vr 1), none], [vr 15]) (MS I J cc ss) _
  refine ev_n (fr' := (16, [some (vr 13), some (vr 1), some (vr 15)], [vr 1, vr 15])) (S' := MS I J cc ss) 5 rfl ?_
  refine ev_cv rfl rfl rfl ⟨Nat.le_of_ble_eq_true rfl, Nat.le_of_ble_eq_true rfl⟩ (sp_cpA_15_1 X _ _ _ _) ?_
  show Ev X k_X1_remember (19, [some (vr 13), some (vr 1), some (vr 15)], []) (MS ((cpA I 15 1)) ((cpJ J 15 1)) cc ss) _
  refine ev_n (fr' := (24, [some (vr 13), some (vr 1), some (vr 15)], [vi (((cpA I 15 1)) 13 1), vr 13])) (S' := MS ((cpA I 15 1)) ((cpJ J 15 1)) cc ss) 3 rfl ?_
  refine ev_eqi (show (((cpA I 15 1)) 13 1) = 0 from (congrFun (cpA_ne (by omega)) 1).trans hn) ?_
  show Ev X k_X1_remember (24, [some (vr 13), some (vr 1), some (vr 15)], [vi 0, vr 13]) (MS ((cpA I 15 1)) ((cpJ J 15 1)) cc ss) _
  refine ev_n (fr' := (29, [some (vr 13), some (vr 1), some (vr 15)], [vi (opI fRem 1 8), vr 13])) (S' := MS ((cpA I 15 1)) ((cpJ J 15 1)) cc ss) 4 rfl ?_
  refine ev_eqi (show opI fRem 1 8 = 1 by decide) ?_
  show Ev X k_X1_remember (29, [some (vr 13), some (vr 1), some (vr 15)], [vi 1, vr 13]) (MS ((cpA I 15 1)) ((cpJ J 15 1)) cc ss) _
  refine ev_n (fr' := (32, [some (vr 13), some (vr 1), some (vr 15)], [])) (S' := MS (up2 ((cpA I 15 1)) 13 1 1) ((cpJ J 15 1)) cc ss) 1 rfl ?_
  refine ev_n (fr' := (37, [some (vr 13), some (vr 1), some (vr 15)], [vi (((cpA I 15 1)) 13 2), vr 13])) (S' := MS (up2 ((cpA I 15 1)) 13 1 1) ((cpJ J 15 1)) cc ss) 3 rfl ?_
  refine ev_eqi (show (((cpA I 15 1)) 13 2) = (m : Int) from (congrFun (cpA_ne (by omega)) 2).trans hk) ?_
  show Ev X k_X1_remember (37, [some (vr 13), some (vr 1), some (vr 15)], [vi (m : Int), vr 13]) (MS (up2 ((cpA I 15 1)) 13 1 1) ((cpJ J 15 1)) cc ss) _
  refine ev_n (fr' := (38, [some (vr 13), some (vr 1), some (vr 15)], [vi 1, vi (m : Int), vr 13])) (S' := MS (up2 ((cpA I 15 1)) 13 1 1) ((cpJ J 15 1)) cc ss) 1 rfl ?_
  refine ev_add (z := (m : Int) + 1) rfl (by omega) (by omega) (by omega) ?_
  show Ev X k_X1_remember (39, [some (vr 13), some (vr 1), some (vr 15)], [vi ((m : Int) + 1), vr 13]) (MS (up2 ((cpA I 15 1)) 13 1 1) ((cpJ J 15 1)) cc ss) _
  refine ev_n (fr' := (41, [some (vr 13), some (vr 1), some (vr 15)], [vi 8, vi ((m : Int) + 1), vr 13])) (S' := MS (up2 ((cpA I 15 1)) 13 1 1) ((cpJ J 15 1)) cc ss) 1 rfl ?_
  refine ev_cv rfl rfl rfl ⟨Nat.le_of_ble_eq_true rfl, Nat.le_of_ble_eq_true rfl⟩ (sp_min X _ ((m : Int) + 1) 8 ) ?_
  show Ev X k_X1_remember (44, [some (vr 13), some (vr 1), some (vr 15)], [vi (if 8 < (m : Int) + 1 then 8 else (m : Int) + 1), vr 13]) (MS (up2 ((cpA I 15 1)) 13 1 1) ((cpJ J 15 1)) cc ss) _
  refine ev_n (fr' := (47, [some (vr 13), some (vr 1), some (vr 15)], [])) (S' := MS (up2 (up2 ((cpA I 15 1)) 13 1 1) 13 2 (if 8 < (m : Int) + 1 then 8 else (m : Int) + 1)) ((cpJ J 15 1)) cc ss) 1 rfl ?_
  refine ev_r rfl rfl rfl ?_
  refine ⟨_, _, rfl, rfl, ⟨fun c hc => ?_, fun c hc => ?_⟩, Hist.rem (nx := 0) (by decide) (by decide) hm h5 h6 hS hw (fun c hc => ?_) rfl ?_ ?_⟩
  · rw [up2_row _ _ _ _ (by omega), up2_row _ _ _ _ (by omega), cpA_ne (by omega)]
  · exact cpJ_ne (by omega)
  · rw [up2_row _ _ _ _ hc, up2_row _ _ _ _ hc]
  · rw [up2_ne2 _ _ _ _ (by decide), up2_same]; rfl
  · rw [up2_same]
    unfold remM
    by_cases h8 : m = 8
    · rw [if_pos h8]; omega
    · rw [if_neg h8]; omega
theorem sp_rem_1 (X : AX) (I J : Nat → Nat → Int) (cc ss : Nat) {hs : Nat → F1} {m : Nat} {g : F1} (hn : I 13 1 = 1) (hk : I 13 2 = (m : Int)) (hm : m ≤ 8) (h5 : ∀ q, q < m → SetR I J (rng8 (1 + 8 - m + q)) (hs q)) (h6 : ∀ q, q < 8 → WD I (rng8 q)) (hS : SetR I J 1 g) (hw : WF g) : Ev X k_X1_remember (0, [some (vr 13), some (vr 1), none], []) (MS I J cc ss) (PV cc ss none (fun I' J' => onlyH I I' J J' ∧ Hist I' J' (remH hs m g) (remM m) ∧ SetR I' J' 1 g)) := by
  refine ev_n (fr' := (5, [some (vr 13), some (vr 1), none], [vi (I 13 1), vr 13])) (S' := MS I J cc ss) 3 rfl ?_
  refine ev_eqi (hn) ?_
  show Ev X k_X1_remember (5, [some (vr 13), some (vr 1), none], [vi 1, vr 13]) (MS I J cc ss) _
  refine ev_cv rfl rfl rfl ⟨Nat.le_of_ble_eq_true rfl, Nat.le_of_ble_eq_true rfl⟩ (sp_at_1 X _ _ _ _) ?_
  show Ev X k_X1_remember (8, [some (vr 13), some (vr 1), none], [vr 27]) (MS I J cc ss) _
  refine ev_n (fr' := (16, [some (vr 13), some (vr 1), some (vr 27)], [vr 1, vr 27])) (S' := MS I J cc ss) 5 rfl ?_
  refine ev_cv rfl rfl rfl ⟨Nat.le_of_ble_eq_true rfl, Nat.le_of_ble_eq_true rfl⟩ (sp_cpA_27_1 X _ _ _ _) ?_
  show Ev X k_X1_remember (19, [some (vr 13), some (vr 1), some (vr 27)], []) (MS ((cpA I 27 1)) ((cpJ J 27 1)) cc ss) _
  refine ev_n (fr' := (24, [some (vr 13), some (vr 1), some (vr 27)], [vi (((cpA I 27 1)) 13 1), vr 13])) (S' := MS ((cpA I 27 1)) ((cpJ J 27 1)) cc ss) 3 rfl ?_
  refine ev_eqi (show (((cpA I 27 1)) 13 1) = 1 from (congrFun (cpA_ne (by omega)) 1).trans hn) ?_
  show Ev X k_X1_remember (24, [some (vr 13), some (vr 1), some (vr 27)], [vi 1, vr 13]) (MS ((cpA I 27 1)) ((cpJ J 27 1)) cc ss) _
  refine ev_n (fr' := (29, [some (vr 13), some (vr 1), some (vr 27)], [vi (opI fRem 2 8), vr 13])) (S' := MS ((cpA I 27 1)) ((cpJ J 27 1)) cc ss) 4 rfl ?_
  refine ev_eqi (show opI fRem 2 8 = 2 by decide) ?_
  show Ev X k_X1_remember (29, [some (vr 13), some (vr 1), some (vr 27)], [vi 2, vr 13]) (MS ((cpA I 27 1)) ((cpJ J 27 1)) cc ss) _
  refine ev_n (fr' := (32, [some (vr 13), some (vr 1), some (vr 27)], [])) (S' := MS (up2 ((cpA I 27 1)) 13 1 2) ((cpJ J 27 1)) cc ss) 1 rfl ?_
  refine ev_n (fr' := (37, [some (vr 13), some (vr 1), some (vr 27)], [vi (((cpA I 27 1)) 13 2), vr 13])) (S' := MS (up2 ((cpA I 27 1)) 13 1 2) ((cpJ J 27 1)) cc ss) 3 rfl ?_
  refine ev_eqi (show (((cpA I 27 1)) 13 2) = (m : Int) from (congrFun (cpA_ne (by omega)) 2).trans hk) ?_
  show Ev X k_X1_remember (37, [some (vr 13), some (vr 1), some (vr 27)], [vi (m : Int), vr 13]) (MS (up2 ((cpA I 27 1)) 13 1 2) ((cpJ J 27 1)) cc ss) _
  refine ev_n (fr' := (38, [some (vr 13), some (vr 1), some (vr 27)], [vi 1, vi (m : Int), vr 13])) (S' := MS (up2 ((cpA I 27 1)) 13 1 2) ((cpJ J 27 1)) cc ss) 1 rfl ?_
  refine ev_add (z := (m : Int) + 1) rfl (by omega) (by omega) (by omega) ?_
  show Ev X k_X1_remember (39, [some (vr 13), some (vr 1), some (vr 27)], [vi ((m : Int) + 1), vr 13]) (MS (up2 ((cpA I 27 1)) 13 1 2) ((cpJ J 27 1)) cc ss) _
  refine ev_n (fr' := (41, [some (vr 13), some (vr 1), some (vr 27)], [vi 8, vi ((m : Int) + 1), vr 13])) (S' := MS (up2 ((cpA I 27 1)) 13 1 2) ((cpJ J 27 1)) cc ss) 1 rfl ?_
  refine ev_cv rfl rfl rfl ⟨Nat.le_of_ble_eq_true rfl, Nat.le_of_ble_eq_true rfl⟩ (sp_min X _ ((m : Int) + 1) 8 ) ?_
  show Ev X k_X1_remember (44, [some (vr 13), some (vr 1), some (vr 27)], [vi (if 8 < (m : Int) + 1 then 8 else (m : Int) + 1), vr 13]) (MS (up2 ((cpA I 27 1)) 13 1 2) ((cpJ J 27 1)) cc ss) _
  refine ev_n (fr' := (47, [some (vr 13), some (vr 1), some (vr 27)], [])) (S' := MS (up2 (up2 ((cpA I 27 1)) 13 1 2) 13 2 (if 8 < (m : Int) + 1 then 8 else (m : Int) + 1)) ((cpJ J 27 1)) cc ss) 1 rfl ?_
  refine ev_r rfl rfl rfl ?_
  refine ⟨_, _, rfl, rfl, ⟨fun c hc => ?_, fun c hc => ?_⟩, Hist.rem (nx := 1) (by decide) (by decide) hm h5 h6 hS hw (fun c hc => ?_) rfl ?_ ?_⟩
  · rw [up2_row _ _ _ _ (by omega), up2_row _ _ _ _ (by omega), cpA_ne (by omega)]
  · exact cpJ_ne (by omega)
  · rw [up2_row _ _ _ _ hc, up2_row _ _ _ _ hc]
  · rw [up2_ne2 _ _ _ _ (by decide), up2_same]; rfl
  · rw [up2_same]
    unfold remM
    by_cases h8 : m = 8
    · rw [if_pos h8]; omega
    · rw [if_neg h8]; omega
theorem sp_rem_2 (X : AX) (I J : Nat → Nat → Int) (cc ss : Nat) {hs : Nat → F1} {m : Nat} {g : F1} (hn : I 13 1 = 2) (hk : I 13 2 = (m : Int)) (hm : m ≤ 8) (h5 : ∀ q, q < m → SetR I J (rng8 (2 + 8 - m + q)) (hs q)) (h6 : ∀ q, q < 8 → WD I (rng8 q)) (hS : SetR I J 1 g) (hw : WF g) : Ev X k_X1_remember (0, [some (vr 13), some (vr 1), none], []) (MS I J cc ss) (PV cc ss none (fun I' J' => onlyH I I' J J' ∧ Hist I' J' (remH hs m g) (remM m) ∧ SetR I' J' 1 g)) := by
  refine ev_n (fr' := (5, [some (vr 13), some (vr 1), none], [vi (I 13 1), vr 13])) (S' := MS I J cc ss) 3 rfl ?_
  refine ev_eqi (hn) ?_
  show Ev X k_X1_remember (5, [some (vr 13), some (vr 1), none], [vi 2, vr 13]) (MS I J cc ss) _
  refine ev_cv rfl rfl rfl ⟨Nat.le_of_ble_eq_true rfl, Nat.le_of_ble_eq_true rfl⟩ (sp_at_2 X _ _ _ _) ?_
  show Ev X k_X1_remember (8, [some (vr 13), some (vr 1), none], [vr 39]) (MS I J cc ss) _
  refine ev_n (fr' := (16, [some (vr 13), some (vr 1), some (vr 39)], [vr 1, vr 39])) (S' := MS I J cc ss) 5 rfl ?_
  refine ev_cv rfl rfl rfl ⟨Nat.le_of_ble_eq_true rfl, Nat.le_of_ble_eq_true rfl⟩ (sp_cpA_39_1 X _ _ _ _) ?_
  show Ev X k_X1_remember (19, [some (vr 13), some (vr 1), some (vr 39)], []) (MS ((cpA I 39 1)) ((cpJ J 39 1)) cc ss) _
  refine ev_n (fr' := (24, [some (vr 13), some (vr 1), some (vr 39)], [vi (((cpA I 39 1)) 13 1), vr 13])) (S' := MS ((cpA I 39 1)) ((cpJ J 39 1)) cc ss) 3 rfl ?_
  refine ev_eqi (show (((cpA I 39 1)) 13 1) = 2 from (congrFun (cpA_ne (by omega)) 1).trans hn) ?_
  show Ev X k_X1_remember (24, [some (vr 13), some (vr 1), some (vr 39)], [vi 2, vr 13]) (MS ((cpA I 39 1)) ((cpJ J 39 1)) cc ss) _
  refine ev_n (fr' := (29, [some (vr 13), some (vr 1), some (vr 39)], [vi (opI fRem 3 8), vr 13])) (S' := MS ((cpA I 39 1)) ((cpJ J 39 1)) cc ss) 4 rfl ?_
  refine ev_eqi (show opI fRem 3 8 = 3 by decide) ?_
  show Ev X k_X1_remember (29, [some (vr 13), some (vr 1), some (vr 39)], [vi 3, vr 13]) (MS ((cpA I 39 1)) ((cpJ J 39 1)) cc ss) _
  refine ev_n (fr' := (32, [some (vr 13), some (vr 1), some (vr 39)], [])) (S' := MS (up2 ((cpA I 39 1)) 13 1 3) ((cpJ J 39 1)) cc ss) 1 rfl ?_
  refine ev_n (fr' := (37, [some (vr 13), some (vr 1), some (vr 39)], [vi (((cpA I 39 1)) 13 2), vr 13])) (S' := MS (up2 ((cpA I 39 1)) 13 1 3) ((cpJ J 39 1)) cc ss) 3 rfl ?_
  refine ev_eqi (show (((cpA I 39 1)) 13 2) = (m : Int) from (congrFun (cpA_ne (by omega)) 2).trans hk) ?_
  show Ev X k_X1_remember (37, [some (vr 13), some (vr 1), some (vr 39)], [vi (m : Int), vr 13]) (MS (up2 ((cpA I 39 1)) 13 1 3) ((cpJ J 39 1)) cc ss) _
  refine ev_n (fr' := (38, [some (vr 13), some (vr 1), some (vr 39)], [vi 1, vi (m : Int), vr 13])) (S' := MS (up2 ((cpA I 39 1)) 13 1 3) ((cpJ J 39 1)) cc ss) 1 rfl ?_
  refine ev_add (z := (m : Int) + 1) rfl (by omega) (by omega) (by omega) ?_
  show Ev X k_X1_remember (39, [some (vr 13), some (vr 1), some (vr 39)], [vi ((m : Int) + 1), vr 13]) (MS (up2 ((cpA I 39 1)) 13 1 3) ((cpJ J 39 1)) cc ss) _
  refine ev_n (fr' := (41, [some (vr 13), some (vr 1), some (vr 39)], [vi 8, vi ((m : Int) + 1), vr 13])) (S' := MS (up2 ((cpA I 39 1)) 13 1 3) ((cpJ J 39 1)) cc ss) 1 rfl ?_
  refine ev_cv rfl rfl rfl ⟨Nat.le_of_ble_eq_true rfl, Nat.le_of_ble_eq_true rfl⟩ (sp_min X _ ((m : Int) + 1) 8 ) ?_
  show Ev X k_X1_remember (44, [some (vr 13), some (vr 1), some (vr 39)], [vi (if 8 < (m : Int) + 1 then 8 else (m : Int) + 1), vr 13]) (MS (up2 ((cpA I 39 1)) 13 1 3) ((cpJ J 39 1)) cc ss) _
  refine ev_n (fr' := (47, [some (vr 13), some (vr 1), some (vr 39)], [])) (S' := MS (up2 (up2 ((cpA I 39 1)) 13 1 3) 13 2 (if 8 < (m : Int) + 1 then 8 else (m : Int) + 1)) ((cpJ J 39 1)) cc ss) 1 rfl ?_
  refine ev_r rfl rfl rfl ?_
  refine ⟨_, _, rfl, rfl, ⟨fun c hc => ?_, fun c hc => ?_⟩, Hist.rem (nx := 2) (by decide) (by decide) hm h5 h6 hS hw (fun c hc => ?_) rfl ?_ ?_⟩
  · rw [up2_row _ _ _ _ (by omega), up2_row _ _ _ _ (by omega), cpA_ne (by omega)]
  · exact cpJ_ne (by omega)
  · rw [up2_row _ _ _ _ hc, up2_row _ _ _ _ hc]
  · rw [up2_ne2 _ _ _ _ (by decide), up2_same]; rfl
  · rw [up2_same]
    unfold remM
    by_cases h8 : m = 8
    · rw [if_pos h8]; omega
    · rw [if_neg h8]; omega
theorem sp_rem_3 (X : AX) (I J : Nat → Nat → Int) (cc ss : Nat) {hs : Nat → F1} {m : Nat} {g : F1} (hn : I 13 1 = 3) (hk : I 13 2 = (m : Int)) (hm : m ≤ 8) (h5 : ∀ q, q < m → SetR I J (rng8 (3 + 8 - m + q)) (hs q)) (h6 : ∀ q, q < 8 → WD I (rng8 q)) (hS : SetR I J 1 g) (hw : WF g) : Ev X k_X1_remember (0, [some (vr 13), some (vr 1), none], []) (MS I J cc ss) (PV cc ss none (fun I' J' => onlyH I I' J J' ∧ Hist I' J' (remH hs m g) (remM m) ∧ SetR I' J' 1 g)) := by
  refine ev_n (fr' := (5, [some (vr 13), some (vr 1), none], [vi (I 13 1), vr 13])) (S' := MS I J cc ss) 3 rfl ?_
  refine ev_eqi (hn) ?_
  show Ev X k_X1_remember (5, [some (vr 13), some (vr 1), none], [vi 3, vr 13]) (MS I J cc ss) _
  refine ev_cv rfl rfl rfl ⟨Nat.le_of_ble_eq_true rfl, Nat.le_of_ble_eq_true rfl⟩ (sp_at_3 X _ _ _ _) ?_
  show Ev X k_X1_remember (8, [some (vr 13), some (vr 1), none], [vr 51]) (MS I J cc ss) _
  refine ev_n (fr' := (16, [some (vr 13), some (vr 1), some (vr 51)], [vr 1, vr 51])) (S' := MS I J cc ss) 5 rfl ?_
  refine ev_cv rfl rfl rfl ⟨Nat.le_of_ble_eq_true rfl, Nat.le_of_ble_eq_true rfl⟩ (sp_cpA_51_1 X _ _ _ _) ?_
  show Ev X k_X1_remember (19, [some (vr 13), some (vr 1), some (vr 51)], []) (MS ((cpA I 51 1)) ((cpJ J 51 1)) cc ss) _
  refine ev_n (fr' := (24, [some (vr 13), some (vr 1), some (vr 51)], [vi (((cpA I 51 1)) 13 1), vr 13])) (S' := MS ((cpA I 51 1)) ((cpJ J 51 1)) cc ss) 3 rfl ?_
  refine ev_eqi (show (((cpA I 51 1)) 13 1) = 3 from (congrFun (cpA_ne (by omega)) 1).trans hn) ?_
  show Ev X k_X1_remember (24, [some (vr 13), some (vr 1), some (vr 51)], [vi 3, vr 13]) (MS ((cpA I 51 1)) ((cpJ J 51 1)) cc ss) _
  refine ev_n (fr' := (29, [some (vr 13), some (vr 1), some (vr 51)], [vi (opI fRem 4 8), vr 13])) (S' := MS ((cpA I 51 1)) ((cpJ J 51 1)) cc ss) 4 rfl ?_
  refine ev_eqi (show opI fRem 4 8 = 4 by decide) ?_
  show Ev X k_X1_remember (29, [some (vr 13), some (vr 1), some (vr 51)], [vi 4, vr 13]) (MS ((cpA I 51 1)) ((cpJ J 51 1)) cc ss) _
  refine ev_n (fr' := (32, [some (vr 13), some (vr 1), some (vr 51)], [])) (S' := MS (up2 ((cpA I 51 1)) 13 1 4) ((cpJ J 51 1)) cc ss) 1 rfl ?_
  refine ev_n (fr' := (37, [some (vr 13), some (vr 1), some (vr 51)], [vi (((cpA I 51 1)) 13 2), vr 13])) (S' := MS (up2 ((cpA I 51 1)) 13 1 4) ((cpJ J 51 1)) cc ss) 3 rfl ?_
  refine ev_eqi (show (((cpA I 51 1)) 13 2) = (m : Int) from (congrFun (cpA_ne (by omega)) 2).trans hk) ?_
  show Ev X k_X1_remember (37, [some (vr 13), some (vr 1), some (vr 51)], [vi (m : Int), vr 13]) (MS (up2 ((cpA I 51 1)) 13 1 4) ((cpJ J 51 1)) cc ss) _
  refine ev_n (fr' := (38, [some (vr 13), some (vr 1), some (vr 51)], [vi 1, vi (m : Int), vr 13])) (S' := MS (up2 ((cpA I 51 1)) 13 1 4) ((cpJ J 51 1)) cc ss) 1 rfl ?_
  refine ev_add (z := (m : Int) + 1) rfl (by omega) (by omega) (by omega) ?_
  show Ev X k_X1_remember (39, [some (vr 13), some (vr 1), some (vr 51)], [vi ((m : Int) + 1), vr 13]) (MS (up2 ((cpA I 51 1)) 13 1 4) ((cpJ J 51 1)) cc ss) _
  refine ev_n (fr' := (41, [some (vr 13), some (vr 1), some (vr 51)], [vi 8, vi ((m : Int) + 1), vr 13])) (S' := MS (up2 ((cpA I 51 1)) 13 1 4) ((cpJ J 51 1)) cc ss) 1 rfl ?_
  refine ev_cv rfl rfl rfl ⟨Nat.le_of_ble_eq_true rfl, Nat.le_of_ble_eq_true rfl⟩ (sp_min X _ ((m : Int) + 1) 8 ) ?_
  show Ev X k_X1_remember (44, [some (vr 13), some (vr 1), some (vr 51)], [vi (if 8 < (m : Int) + 1 then 8 else (m : Int) + 1), vr 13]) (MS (up2 ((cpA I 51 1)) 13 1 4) ((cpJ J 51 1)) cc ss) _
  refine ev_n (fr' := (47, [some (vr 13), some (vr 1), some (vr 51)], [])) (S' := MS (up2 (up2 ((cpA I 51 1)) 13 1 4) 13 2 (if 8 < (m : Int) + 1 then 8 else (m : Int) + 1)) ((cpJ J 51 1)) cc ss) 1 rfl ?_
  refine ev_r rfl rfl rfl ?_
  refine ⟨_, _, rfl, rfl, ⟨fun c hc => ?_, fun c hc => ?_⟩, Hist.rem (nx := 3) (by decide) (by decide) hm h5 h6 hS hw (fun c hc => ?_) rfl ?_ ?_⟩
  · rw [up2_row _ _ _ _ (by omega), up2_row _ _ _ _ (by omega), cpA_ne (by omega)]
  · exact cpJ_ne (by omega)
  · rw [up2_row _ _ _ _ hc, up2_row _ _ _ _ hc]
  · rw [up2_ne2 _ _ _ _ (by decide), up2_same]; rfl
  · rw [up2_same]
    unfold remM
    by_cases h8 : m = 8
    · rw [if_pos h8]; omega
    · rw [if_neg h8]; omega
theorem sp_rem_4 (X : AX) (I J : Nat → Nat → Int) (cc ss : Nat) {hs : Nat → F1} {m : Nat} {g : F1} (hn : I 13 1 = 4) (hk : I 13 2 = (m : Int)) (hm : m ≤ 8) (h5 : ∀ q, q < m → SetR I J (rng8 (4 + 8 - m + q)) (hs q)) (h6 : ∀ q, q < 8 → WD I (rng8 q)) (hS : SetR I J 1 g) (hw : WF g) : Ev X k_X1_remember (0, [some (vr 13), some (vr 1), none], []) (MS I J cc ss) (PV cc ss none (fun I' J' => onlyH I I' J J' ∧ Hist I' J' (remH hs m g) (remM m) ∧ SetR I' J' 1 g)) := by
  refine ev_n (fr' := (5, [some (vr 13), some (vr 1), none], [vi (I 13 1), vr 13])) (S' := MS I J cc ss) 3 rfl ?_
  refine ev_eqi (hn) ?_
  show Ev X k_X1_remember (5, [some (vr 13), some (vr 1), none], [vi 4, vr 13]) (MS I J cc ss) _
  refine ev_cv rfl rfl rfl ⟨Nat.le_of_ble_eq_true rfl, Nat.le_of_ble_eq_true rfl⟩ (sp_at_4 X _ _ _ _) ?_
  show Ev X k_X1_remember (8, [some (vr 13), some (vr 1), none], [vr 63]) (MS I J cc ss) _
  refine ev_n (fr' := (16, [some (vr 13), some (vr 1), some (vr 63)], [vr 1, vr 63])) (S' := MS I J cc ss) 5 rfl ?_
  refine ev_cv rfl rfl rfl ⟨Nat.le_of_ble_eq_true rfl, Nat.le_of_ble_eq_true rfl⟩ (sp_cpA_63_1 X _ _ _ _) ?_
  show Ev X k_X1_remember (19, [some (vr 13), some (vr 1), some (vr 63)], []) (MS ((cpA I 63 1)) ((cpJ J 63 1)) cc ss) _
  refine ev_n (fr' := (24, [some (vr 13), some (vr 1), some (vr 63)], [vi (((cpA I 63 1)) 13 1), vr 13])) (S' := MS ((cpA I 63 1)) ((cpJ J 63 1)) cc ss) 3 rfl ?_
  refine ev_eqi (show (((cpA I 63 1)) 13 1) = 4 from (congrFun (cpA_ne (by omega)) 1).trans hn) ?_
  show Ev X k_X1_remember (24, [some (vr 13), some (vr 1), some (vr 63)], [vi 4, vr 13]) (MS ((cpA I 63 1)) ((cpJ J 63 1)) cc ss) _
  refine ev_n (fr' := (29, [some (vr 13), some (vr 1), some (vr 63)], [vi (opI fRem 5 8), vr 13])) (S' := MS ((cpA I 63 1)) ((cpJ J 63 1)) cc ss) 4 rfl ?_
  refine ev_eqi (show opI fRem 5 8 = 5 by decide) ?_
  show Ev X k_X1_remember (29, [some (vr 13), some (vr 1), some (vr 63)], [vi 5, vr 13]) (MS ((cpA I 63 1)) ((cpJ J 63 1)) cc ss) _
  refine ev_n (fr' := (32, [some (vr 13), some (vr 1), some (vr 63)], [])) (S' := MS (up2 ((cpA I 63 1)) 13 1 5) ((cpJ J 63 1)) cc ss) 1 rfl ?_
  refine ev_n (fr' := (37, [some (vr 13), some (vr 1), some (vr 63)], [vi (((cpA I 63 1)) 13 2), vr 13])) (S' := MS (up2 ((cpA I 63 1)) 13 1 5) ((cpJ J 63 1)) cc ss) 3 rfl ?_
  refine ev_eqi (show (((cpA I 63 1)) 13 2) = (m : Int) from (congrFun (cpA_ne (by omega)) 2).trans hk) ?_
  show Ev X k_X1_remember (37, [some (vr 13), some (vr 1), some (vr 63)], [vi (m : Int), vr 13]) (MS (up2 ((cpA I 63 1)) 13 1 5) ((cpJ J 63 1)) cc ss) _
  refine ev_n (fr' := (38, [some (vr 13), some (vr 1), some (vr 63)], [vi 1, vi (m : Int), vr 13])) (S' := MS (up2 ((cpA I 63 1)) 13 1 5) ((cpJ J 63 1)) cc ss) 1 rfl ?_
  refine ev_add (z := (m : Int) + 1) rfl (by omega) (by omega) (by omega) ?_
  show Ev X k_X1_remember (39, [some (vr 13), some (vr 1), some (vr 63)], [vi ((m : Int) + 1), vr 13]) (MS (up2 ((cpA I 63 1)) 13 1 5) ((cpJ J 63 1)) cc ss) _
  refine ev_n (fr' := (41, [some (vr 13), some (vr 1), some (vr 63)], [vi 8, vi ((m : Int) + 1), vr 13])) (S' := MS (up2 ((cpA I 63 1)) 13 1 5) ((cpJ J 63 1)) cc ss) 1 rfl ?_
  refine ev_cv rfl rfl rfl ⟨Nat.le_of_ble_eq_true rfl, Nat.le_of_ble_eq_true rfl⟩ (sp_min X _ ((m : Int) + 1) 8 ) ?_
  show Ev X k_X1_remember (44, [some (vr 13), some (vr 1), some (vr 63)], [vi (if 8 < (m : Int) + 1 then 8 else (m : Int) + 1), vr 13]) (MS (up2 ((cpA I 63 1)) 13 1 5) ((cpJ J 63 1)) cc ss) _
  refine ev_n (fr' := (47, [some (vr 13), some (vr 1), some (vr 63)], [])) (S' := MS (up2 (up2 ((cpA I 63 1)) 13 1 5) 13 2 (if 8 < (m : Int) + 1 then 8 else (m : Int) + 1)) ((cpJ J 63 1)) cc ss) 1 rfl ?_
  refine ev_r rfl rfl rfl ?_
  refine ⟨_, _, rfl, rfl, ⟨fun c hc => ?_, fun c hc => ?_⟩, Hist.rem (nx := 4) (by decide) (by decide) hm h5 h6 hS hw (fun c hc => ?_) rfl ?_ ?_⟩
  · rw [up2_row _ _ _ _ (by omega), up2_row _ _ _ _ (by omega), cpA_ne (by omega)]
  · exact cpJ_ne (by omega)
  · rw [up2_row _ _ _ _ hc, up2_row _ _ _ _ hc]
  · rw [up2_ne2 _ _ _ _ (by decide), up2_same]; rfl
  · rw [up2_same]
    unfold remM
    by_cases h8 : m = 8
    · rw [if_pos h8]; omega
    · rw [if_neg h8]; omega
theorem sp_rem_5 (X : AX) (I J : Nat → Nat → Int) (cc ss : Nat) {hs : Nat → F1} {m : Nat} {g : F1} (hn : I 13 1 = 5) (hk : I 13 2 = (m : Int)) (hm : m ≤ 8) (h5 : ∀ q, q < m → SetR I J (rng8 (5 + 8 - m + q)) (hs q)) (h6 : ∀ q, q < 8 → WD I (rng8 q)) (hS : SetR I J 1 g) (hw : WF g) : Ev X k_X1_remember (0, [some (vr 13), some (vr 1), none], []) (MS I J cc ss) (PV cc ss none (fun I' J' => onlyH I I' J J' ∧ Hist I' J' (remH hs m g) (remM m) ∧ SetR I' J' 1 g)) := by
  refine ev_n (fr' := (5, [some (vr 13), some (vr 1), none], [vi (I 13 1), vr 13])) (S' := MS I J cc ss) 3 rfl ?_
  refine ev_eqi (hn) ?_
  show Ev X k_X1_remember (5, [some (vr 13), some (vr 1), none], [vi 5, vr 13]) (MS I J cc ss) _
  refine ev_cv rfl rfl rfl ⟨Nat.le_of_ble_eq_true rfl, Nat.le_of_ble_eq_true rfl⟩ (sp_at_5 X _ _ _ _) ?_
  show Ev X k_X1_remember (8, [some (vr 13), some (vr 1), none], [vr 75]) (MS I J cc ss) _
  refine ev_n (fr' := (16, [some (vr 13), some (vr 1), some (vr 75)], [vr 1, vr 75])) (S' := MS I J cc ss) 5 rfl ?_
  refine ev_cv rfl rfl rfl ⟨Nat.le_of_ble_eq_true rfl, Nat.le_of_ble_eq_true rfl⟩ (sp_cpA_75_1 X _ _ _ _) ?_
  show Ev X k_X1_remember (19, [some (vr 13), some (vr 1), some (vr 75)], []) (MS ((cpA I 75 1)) ((cpJ J 75 1)) cc ss) _
  refine ev_n (fr' := (24, [some (vr 13), some (vr 1), some (vr 75)], [vi (((cpA I 75 1)) 13 1), vr 13])) (S' := MS ((cpA I 75 1)) ((cpJ J 75 1)) cc ss) 3 rfl ?_
  refine ev_eqi (show (((cpA I 75 1)) 13 1) = 5 from (congrFun (cpA_ne (by omega)) 1).trans hn) ?_
  show Ev X k_X1_remember (24, [some (vr 13), some (vr 1), some (vr 75)], [vi 5, vr 13]) (MS ((cpA I 75 1)) ((cpJ J 75 1)) cc ss) _
  refine ev_n (fr' := (29, [some (vr 13), some (vr 1), some (vr 75)], [vi (opI fRem 6 8), vr 13])) (S' := MS ((cpA I 75 1)) ((cpJ J 75 1)) cc ss) 4 rfl ?_
  refine ev_eqi (show opI fRem 6 8 = 6 by decide) ?_
  show Ev X k_X1_remember (29, [some (vr 13), some (vr 1), some (vr 75)], [vi 6, vr 13]) (MS ((cpA I 75 1)) ((cpJ J 75 1)) cc ss) _
  refine ev_n (fr' := (32, [some (vr 13), some (vr 1), some (vr 75)], [])) (S' := MS (up2 ((cpA I 75 1)) 13 1 6) ((cpJ J 75 1)) cc ss) 1 rfl ?_
  refine ev_n (fr' := (37, [some (vr 13), some (vr 1), some (vr 75)], [vi (((cpA I 75 1)) 13 2), vr 13])) (S' := MS (up2 ((cpA I 75 1)) 13 1 6) ((cpJ J 75 1)) cc ss) 3 rfl ?_
  refine ev_eqi (show (((cpA I 75 1)) 13 2) = (m : Int) from (congrFun (cpA_ne (by omega)) 2).trans hk) ?_
  show Ev X k_X1_remember (37, [some (vr 13), some (vr 1), some (vr 75)], [vi (m : Int), vr 13]) (MS (up2 ((cpA I 75 1)) 13 1 6) ((cpJ J 75 1)) cc ss) _
  refine ev_n (fr' := (38, [some (vr 13), some (vr 1), some (vr 75)], [vi 1, vi (m : Int), vr 13])) (S' := MS (up2 ((cpA I 75 1)) 13 1 6) ((cpJ J 75 1)) cc ss) 1 rfl ?_
  refine ev_add (z := (m : Int) + 1) rfl (by omega) (by omega) (by omega) ?_
  show Ev X k_X1_remember (39, [some (vr 13), some (vr 1), some (vr 75)], [vi ((m : Int) + 1), vr 13]) (MS (up2 ((cpA I 75 1)) 13 1 6) ((cpJ J 75 1)) cc ss) _
  refine ev_n (fr' := (41, [some (vr 13), some (vr 1), some (vr 75)], [vi 8, vi ((m : Int) + 1), vr 13])) (S' := MS (up2 ((cpA I 75 1)) 13 1 6) ((cpJ J 75 1)) cc ss) 1 rfl ?_
  refine ev_cv rfl rfl rfl ⟨Nat.le_of_ble_eq_true rfl, Nat.le_of_ble_eq_true rfl⟩ (sp_min X _ ((m : Int) + 1) 8 ) ?_
  show Ev X k_X1_remember (44, [some (vr 13), some (vr 1), some (vr 75)], [vi (if 8 < (m : Int) + 1 then 8 else (m : Int) + 1), vr 13]) (MS (up2 ((cpA I 75 1)) 13 1 6) ((cpJ J 75 1)) cc ss) _
  refine ev_n (fr' := (47, [some (vr 13), some (vr 1), some (vr 75)], [])) (S' := MS (up2 (up2 ((cpA I 75 1)) 13 1 6) 13 2 (if 8 < (m : Int) + 1 then 8 else (m : Int) + 1)) ((cpJ J 75 1)) cc ss) 1 rfl ?_
  refine ev_r rfl rfl rfl ?_
  refine ⟨_, _, rfl, rfl, ⟨fun c hc => ?_, fun c hc => ?_⟩, Hist.rem (nx := 5) (by decide) (by decide) hm h5 h6 hS hw (fun c hc => ?_) rfl ?_ ?_⟩
  · rw [up2_row _ _ _ _ (by omega), up2_row _ _ _ _ (by omega), cpA_ne (by omega)]
  · exact cpJ_ne (by omega)
  · rw [up2_row _ _ _ _ hc, up2_row _ _ _ _ hc]
  · rw [up2_ne2 _ _ _ _ (by decide), up2_same]; rfl
  · rw [up2_same]
    unfold remM
    by_cases h8 : m = 8
    · rw [if_pos h8]; omega
    · rw [if_neg h8]; omega
theorem sp_rem_6 (X : AX) (I J : Nat → Nat → Int) (cc ss : Nat) {hs : Nat → F1} {m : Nat} {g : F1} (hn : I 13 1 = 6) (hk : I 13 2 = (m : Int)) (hm : m ≤ 8) (h5 : ∀ q, q < m → SetR I J (rng8 (6 + 8 - m + q)) (hs q)) (h6 : ∀ q, q < 8 → WD I (rng8 q)) (hS : SetR I J 1 g) (hw : WF g) : Ev X k_X1_remember (0, [some (vr 13), some (vr 1), none], []) (MS I J cc ss) (PV cc ss none (fun I' J' => onlyH I I' J J' ∧ Hist I' J' (remH hs m g) (remM m) ∧ SetR I' J' 1 g)) := by
  refine ev_n (fr' := (5, [some (vr 13), some (vr 1), none], [vi (I 13 1), vr 13])) (S' := MS I J cc ss) 3 rfl ?_
  refine ev_eqi (hn) ?_
  show Ev X k_X1_remember (5, [some (vr 13), some (vr 1), none], [vi 6, vr 13]) (MS I J cc ss) _
  refine ev_cv rfl rfl rfl ⟨Nat.le_of_ble_eq_true rfl, Nat.le_of_ble_eq_true rfl⟩ (sp_at_6 X _ _ _ _) ?_
  show Ev X k_X1_remember (8, [some (vr 13), some (vr 1), none], [vr 87]) (MS I J cc ss) _
  refine ev_n (fr' := (16, [some (vr 13), some (vr 1), some (vr 87)], [vr 1, vr 87])) (S' := MS I J cc ss) 5 rfl ?_
  refine ev_cv rfl rfl rfl ⟨Nat.le_of_ble_eq_true rfl, Nat.le_of_ble_eq_true rfl⟩ (sp_cpA_87_1 X _ _ _ _) ?_
  show Ev X k_X1_remember (19, [some (vr 13), some (vr 1), some (vr 87)], []) (MS ((cpA I 87 1)) ((cpJ J 87 1)) cc ss) _
  refine ev_n (fr' := (24, [some (vr 13), some (vr 1), some (vr 87)], [vi (((cpA I 87 1)) 13 1), vr 13])) (S' := MS ((cpA I 87 1)) ((cpJ J 87 1)) cc ss) 3 rfl ?_
  refine ev_eqi (show (((cpA I 87 1)) 13 1) = 6 from (congrFun (cpA_ne (by omega)) 1).trans hn) ?_
  show Ev X k_X1_remember (24, [some (vr 13), some (vr 1), some (vr 87)], [vi 6, vr 13]) (MS ((cpA I 87 1)) ((cpJ J 87 1)) cc ss) _
  refine ev_n (fr' := (29, [some (vr 13), some (vr 1), some (vr 87)], [vi (opI fRem 7 8), vr 13])) (S' := MS ((cpA I 87 1)) ((cpJ J 87 1)) cc ss) 4 rfl ?_
  refine ev_eqi (show opI fRem 7 8 = 7 by decide) ?_
  show Ev X k_X1_remember (29, [some (vr 13), some (vr 1), some (vr 87)], [vi 7, vr 13]) (MS ((cpA I 87 1)) ((cpJ J 87 1)) cc ss) _
  refine ev_n (fr' := (32, [some (vr 13), some (vr 1), some (vr 87)], [])) (S' := MS (up2 ((cpA I 87 1)) 13 1 7) ((cpJ J 87 1)) cc ss) 1 rfl ?_
  refine ev_n (fr' := (37, [some (vr 13), some (vr 1), some (vr 87)], [vi (((cpA I 87 1)) 13 2), vr 13])) (S' := MS (up2 ((cpA I 87 1)) 13 1 7) ((cpJ J 87 1)) cc ss) 3 rfl ?_
  refine ev_eqi (show (((cpA I 87 1)) 13 2) = (m : Int) from (congrFun (cpA_ne (by omega)) 2).trans hk) ?_
  show Ev X k_X1_remember (37, [some (vr 13), some (vr 1), some (vr 87)], [vi (m : Int), vr 13]) (MS (up2 ((cpA I 87 1)) 13 1 7) ((cpJ J 87 1)) cc ss) _
  refine ev_n (fr' := (38, [some (vr 13), some (vr 1), some (vr 87)], [vi 1, vi (m : Int), vr 13])) (S' := MS (up2 ((cpA I 87 1)) 13 1 7) ((cpJ J 87 1)) cc ss) 1 rfl ?_
  refine ev_add (z := (m : Int) + 1) rfl (by omega) (by omega) (by omega) ?_
  show Ev X k_X1_remember (39, [some (vr 13), some (vr 1), some (vr 87)], [vi ((m : Int) + 1), vr 13]) (MS (up2 ((cpA I 87 1)) 13 1 7) ((cpJ J 87 1)) cc ss) _
  refine ev_n (fr' := (41, [some (vr 13), some (vr 1), some (vr 87)], [vi 8, vi ((m : Int) + 1), vr 13])) (S' := MS (up2 ((cpA I 87 1)) 13 1 7) ((cpJ J 87 1)) cc ss) 1 rfl ?_
  refine ev_cv rfl rfl rfl ⟨Nat.le_of_ble_eq_true rfl, Nat.le_of_ble_eq_true rfl⟩ (sp_min X _ ((m : Int) + 1) 8 ) ?_
  show Ev X k_X1_remember (44, [some (vr 13), some (vr 1), some (vr 87)], [vi (if 8 < (m : Int) + 1 then 8 else (m : Int) + 1), vr 13]) (MS (up2 ((cpA I 87 1)) 13 1 7) ((cpJ J 87 1)) cc ss) _
  refine ev_n (fr' := (47, [some (vr 13), some (vr 1), some (vr 87)], [])) (S' := MS (up2 (up2 ((cpA I 87 1)) 13 1 7) 13 2 (if 8 < (m : Int) + 1 then 8 else (m : Int) + 1)) ((cpJ J 87 1)) cc ss) 1 rfl ?_
  refine ev_r rfl rfl rfl ?_
  refine ⟨_, _, rfl, rfl, ⟨fun c hc => ?_, fun c hc => ?_⟩, Hist.rem (nx := 6) (by decide) (by decide) hm h5 h6 hS hw (fun c hc => ?_) rfl ?_ ?_⟩
  · rw [up2_row _ _ _ _ (by omega), up2_row _ _ _ _ (by omega), cpA_ne (by omega)]
  · exact cpJ_ne (by omega)
  · rw [up2_row _ _ _ _ hc, up2_row _ _ _ _ hc]
  · rw [up2_ne2 _ _ _ _ (by decide), up2_same]; rfl
  · rw [up2_same]
    unfold remM
    by_cases h8 : m = 8
    · rw [if_pos h8]; omega
    · rw [if_neg h8]; omega
theorem sp_rem_7 (X : AX) (I J : Nat → Nat → Int) (cc ss : Nat) {hs : Nat → F1} {m : Nat} {g : F1} (hn : I 13 1 = 7) (hk : I 13 2 = (m : Int)) (hm : m ≤ 8) (h5 : ∀ q, q < m → SetR I J (rng8 (7 + 8 - m + q)) (hs q)) (h6 : ∀ q, q < 8 → WD I (rng8 q)) (hS : SetR I J 1 g) (hw : WF g) : Ev X k_X1_remember (0, [some (vr 13), some (vr 1), none], []) (MS I J cc ss) (PV cc ss none (fun I' J' => onlyH I I' J J' ∧ Hist I' J' (remH hs m g) (remM m) ∧ SetR I' J' 1 g)) := by
  refine ev_n (fr' := (5, [some (vr 13), some (vr 1), none], [vi (I 13 1), vr 13])) (S' := MS I J cc ss) 3 rfl ?_
  refine ev_eqi (hn) ?_
  show Ev X k_X1_remember (5, [some (vr 13), some (vr 1), none], [vi 7, vr 13]) (MS I J cc ss) _
  refine ev_cv rfl rfl rfl ⟨Nat.le_of_ble_eq_true rfl, Nat.le_of_ble_eq_true rfl⟩ (sp_at_7 X _ _ _ _) ?_
  show Ev X k_X1_remember (8, [some (vr 13), some (vr 1), none], [vr 99]) (MS I J cc ss) _
  refine ev_n (fr' := (16, [some (vr 13), some (vr 1), some (vr 99)], [vr 1, vr 99])) (S' := MS I J cc ss) 5 rfl ?_
  refine ev_cv rfl rfl rfl ⟨Nat.le_of_ble_eq_true rfl, Nat.le_of_ble_eq_true rfl⟩ (sp_cpA_99_1 X _ _ _ _) ?_
  show Ev X k_X1_remember (19, [some (vr 13), some (vr 1), some (vr 99)], []) (MS ((cpA I 99 1)) ((cpJ J 99 1)) cc ss) _
  refine ev_n (fr' := (24, [some (vr 13), some (vr 1), some (vr 99)], [vi (((cpA I 99 1)) 13 1), vr 13])) (S' := MS ((cpA I 99 1)) ((cpJ J 99 1)) cc ss) 3 rfl ?_
  refine ev_eqi (show (((cpA I 99 1)) 13 1) = 7 from (congrFun (cpA_ne (by omega)) 1).trans hn) ?_
  show Ev X k_X1_remember (24, [some (vr 13), some (vr 1), some (vr 99)], [vi 7, vr 13]) (MS ((cpA I 99 1)) ((cpJ J 99 1)) cc ss) _
  refine ev_n (fr' := (29, [some (vr 13), some (vr 1), some (vr 99)], [vi (opI fRem 8 8), vr 13])) (S' := MS ((cpA I 99 1)) ((cpJ J 99 1)) cc ss) 4 rfl ?_
  refine ev_eqi (show opI fRem 8 8 = 0 by decide) ?_
  show Ev X k_X1_remember (29, [some (vr 13), some (vr 1), some (vr 99)], [vi 0, vr 13]) (MS ((cpA I 99 1)) ((cpJ J 99 1)) cc ss) _
  refine ev_n (fr' := (32, [some (vr 13), some (vr 1), some (vr 99)], [])) (S' := MS (up2 ((cpA I 99 1)) 13 1 0) ((cpJ J 99 1)) cc ss) 1 rfl ?_
  refine ev_n (fr' := (37, [some (vr 13), some (vr 1), some (vr 99)], [vi (((cpA I 99 1)) 13 2), vr 13])) (S' := MS (up2 ((cpA I 99 1)) 13 1 0) ((cpJ J 99 1)) cc ss) 3 rfl ?_
  refine ev_eqi (show (((cpA I 99 1)) 13 2) = (m : Int) from (congrFun (cpA_ne (by omega)) 2).trans hk) ?_
  show Ev X k_X1_remember (37, [some (vr 13), some (vr 1), some (vr 99)], [vi (m : Int), vr 13]) (MS (up2 ((cpA I 99 1)) 13 1 0) ((cpJ J 99 1)) cc ss) _
  refine ev_n (fr' := (38, [some (vr 13), some (vr 1), some (vr 99)], [vi 1, vi (m : Int), vr 13])) (S' := MS (up2 ((cpA I 99 1)) 13 1 0) ((cpJ J 99 1)) cc ss) 1 rfl ?_
  refine ev_add (z := (m : Int) + 1) rfl (by omega) (by omega) (by omega) ?_
  show Ev X k_X1_remember (39, [some (vr 13), some (vr 1), some (vr 99)], [vi ((m : Int) + 1), vr 13]) (MS (up2 ((cpA I 99 1)) 13 1 0) ((cpJ J 99 1)) cc ss) _
  refine ev_n (fr' := (41, [some (vr 13), some (vr 1), some (vr 99)], [vi 8, vi ((m : Int) + 1), vr 13])) (S' := MS (up2 ((cpA I 99 1)) 13 1 0) ((cpJ J 99 1)) cc ss) 1 rfl ?_
  refine ev_cv rfl rfl rfl ⟨Nat.le_of_ble_eq_true rfl, Nat.le_of_ble_eq_true rfl⟩ (sp_min X _ ((m : Int) + 1) 8 ) ?_
  show Ev X k_X1_remember (44, [some (vr 13), some (vr 1), some (vr 99)], [vi (if 8 < (m : Int) + 1 then 8 else (m : Int) + 1), vr 13]) (MS (up2 ((cpA I 99 1)) 13 1 0) ((cpJ J 99 1)) cc ss) _
  refine ev_n (fr' := (47, [some (vr 13), some (vr 1), some (vr 99)], [])) (S' := MS (up2 (up2 ((cpA I 99 1)) 13 1 0) 13 2 (if 8 < (m : Int) + 1 then 8 else (m : Int) + 1)) ((cpJ J 99 1)) cc ss) 1 rfl ?_
  refine ev_r rfl rfl rfl ?_
  refine ⟨_, _, rfl, rfl, ⟨fun c hc => ?_, fun c hc => ?_⟩, Hist.rem (nx := 7) (by decide) (by decide) hm h5 h6 hS hw (fun c hc => ?_) rfl ?_ ?_⟩
  · rw [up2_row _ _ _ _ (by omega), up2_row _ _ _ _ (by omega), cpA_ne (by omega)]
  · exact cpJ_ne (by omega)
  · rw [up2_row _ _ _ _ hc, up2_row _ _ _ _ hc]
  · rw [up2_ne2 _ _ _ _ (by decide), up2_same]; rfl
  · rw [up2_same]
    unfold remM
    by_cases h8 : m = 8
    · rw [if_pos h8]; omega
    · rw [if_neg h8]; omega
theorem sp_rem (X : AX) (I J : Nat → Nat → Int) (cc ss : Nat) {hs : Nat → F1} {m : Nat} {g : F1} (h : Hist I J hs m) (hS : SetR I J 1 g) (hw : WF g) : Ev X k_X1_remember (0, [some (vr 13), some (vr 1), none], []) (MS I J cc ss) (PV cc ss none (fun I' J' => onlyH I I' J J' ∧ Hist I' J' (remH hs m g) (remM m) ∧ SetR I' J' 1 g)) := by
  obtain ⟨nx, h1, h2, h3, h4, h5, h6⟩ := h
  rcases (show nx = 0 ∨ nx = 1 ∨ nx = 2 ∨ nx = 3 ∨ nx = 4 ∨ nx = 5 ∨ nx = 6 ∨ nx = 7 by omega) with e | e | e | e | e | e | e | e <;> subst e
  · exact sp_rem_0 X I J cc ss h2 h3 h4 h5 h6 hS hw
  · exact sp_rem_1 X I J cc ss h2 h3 h4 h5 h6 hS hw
  · exact sp_rem_2 X I J cc ss h2 h3 h4 h5 h6 hS hw
  · exact sp_rem_3 X I J cc ss h2 h3 h4 h5 h6 hS hw
  · exact sp_rem_4 X I J cc ss h2 h3 h4 h5 h6 hS hw
  · exact sp_rem_5 X I J cc ss h2 h3 h4 h5 h6 hS hw
  · exact sp_rem_6 X I J cc ss h2 h3 h4 h5 h6 hS hw
  · exact sp_rem_7 X I J cc ss h2 h3 h4 h5 h6 hS hw
theorem sp_back_0 (X : AX) (I J : Nat → Nat → Int) (cc ss : Nat) {hs : Nat → F1} {m : Nat} (hn : I 13 1 = 0) (hk : I 13 2 = (m : Int)) (hm : m ≤ 8) (hm0 : 0 < m) (h5 : ∀ q, q < m → SetR I J (rng8 (0 + 8 - m + q)) (hs q)) (h6 : ∀ q, q < 8 → WD I (rng8 q)) (hS : WD I 1) (hw : WF (hs (m - 1))) : Ev X k_X1_bringBack (0, [some (vr 13), some (vr 1), none, none], []) (MS I J cc ss) (PV cc ss none (fun I' J' => (∀ c, c = 0 ∨ 12 < c → c ≠ 13 → I' c = I c) ∧ (∀ c, c = 0 ∨ 12 < c → J' c = J c) ∧ Hist I' J' hs (m - 1) ∧ SetR I' J' 1 (hs (m - 1)))) := by
  refine ev_n (fr' := (4, [some (vr 13), some (vr 1), none, none], [vi (I 13 1)])) (S' := MS I J cc ss) 2 rfl ?_
  refine ev_eqi (hn) ?_
  show Ev X k_X1_bringBack (4, [some (vr 13), some (vr 1), none, none], [vi 0]) (MS I J cc ss) _
  refine ev_n (fr' := (12, [some (vr 13), some (vr 1), none, none], [vi (opI fRem 7 8)])) (S' := MS I J cc ss) 6 rfl ?_
  refine ev_eqi (show opI fRem 7 8 = 7 by decide) ?_
  show Ev X k_X1_bringBack (12, [some (vr 13), some (vr 1), none, none], [vi 7]) (MS I J cc ss) _
  refine ev_n (fr' := (15, [some (vr 13), some (vr 1), some (vi 7), none], [vi 7, vr 13])) (S' := MS I J cc ss) 3 rfl ?_
  refine ev_cv rfl rfl rfl ⟨Nat.le_of_ble_eq_true rfl, Nat.le_of_ble_eq_true rfl⟩ (sp_at_7 X _ _ _ _) ?_
  show Ev X k_X1_bringBack (18, [some (vr 13), some (vr 1), some (vi 7), none], [vr 99]) (MS I J cc ss) _
  refine ev_n (fr' := (27, [some (vr 13), some (vr 1), some (vi 7), some (vr 99)], [vi (I 13 2)])) (S' := MS I J cc ss) 5 rfl ?_
  refine ev_eqi (hk) ?_
  show Ev X k_X1_bringBack (27, [some (vr 13), some (vr 1), some (vi 7), some (vr 99)], [vi (m : Int)]) (MS I J cc ss) _
  refine ev_if (c := .ne) (off := 4) rfl (by decide) (fun (g1 : (m : Int) ≠ 0) => ?_) (fun (g1 : ¬ ((m : Int) ≠ 0)) => False.elim (by omega))
  show Ev X k_X1_bringBack (31, [some (vr 13), some (vr 1), some (vi 7), some (vr 99)], []) (MS I J cc ss) _
  refine ev_n (fr' := (33, [some (vr 13), some (vr 1), some (vi 7), some (vr 99)], [vr 99, vr 1])) (S' := MS I J cc ss) 2 rfl ?_
  refine ev_cv rfl rfl rfl ⟨Nat.le_of_ble_eq_true rfl, Nat.le_of_ble_eq_true rfl⟩ (sp_cpA_1_99 X _ _ _ _) ?_
  show Ev X k_X1_bringBack (36, [some (vr 13), some (vr 1), some (vi 7), some (vr 99)], []) (MS ((cpA I 1 99)) ((cpJ J 1 99)) cc ss) _
  refine ev_n (fr' := (38, [some (vr 13), some (vr 1), some (vi 7), some (vr 99)], [vi 7, vr 13])) (S' := MS ((cpA I 1 99)) ((cpJ J 1 99)) cc ss) 2 rfl ?_
  refine ev_n (fr' := (41, [some (vr 13), some (vr 1), some (vi 7), some (vr 99)], [])) (S' := MS (up2 ((cpA I 1 99)) 13 1 7) ((cpJ J 1 99)) cc ss) 1 rfl ?_
  refine ev_n (fr' := (46, [some (vr 13), some (vr 1), some (vi 7), some (vr 99)], [vi (((cpA I 1 99)) 13 2), vr 13])) (S' := MS (up2 ((cpA I 1 99)) 13 1 7) ((cpJ J 1 99)) cc ss) 3 rfl ?_
  refine ev_eqi (show (((cpA I 1 99)) 13 2) = (m : Int) from (congrFun (cpA_ne (by omega)) 2).trans hk) ?_
  show Ev X k_X1_bringBack (46, [some (vr 13), some (vr 1), some (vi 7), some (vr 99)], [vi (m : Int), vr 13]) (MS (up2 ((cpA I 1 99)) 13 1 7) ((cpJ J 1 99)) cc ss) _
  refine ev_n (fr' := (47, [some (vr 13), some (vr 1), some (vi 7), some (vr 99)], [vi 1, vi (m : Int), vr 13])) (S' := MS (up2 ((cpA I 1 99)) 13 1 7) ((cpJ J 1 99)) cc ss) 1 rfl ?_
  refine ev_sub (z := (m : Int) - 1) rfl (by omega) (by omega) (by omega) ?_
  show Ev X k_X1_bringBack (48, [some (vr 13), some (vr 1), some (vi 7), some (vr 99)], [vi ((m : Int) - 1), vr 13]) (MS (up2 ((cpA I 1 99)) 13 1 7) ((cpJ J 1 99)) cc ss) _
  refine ev_n (fr' := (51, [some (vr 13), some (vr 1), some (vi 7), some (vr 99)], [])) (S' := MS (up2 (up2 ((cpA I 1 99)) 13 1 7) 13 2 ((m : Int) - 1)) ((cpJ J 1 99)) cc ss) 1 rfl ?_
  refine ev_r rfl rfl rfl ?_
  refine ⟨_, _, rfl, rfl, fun c hc h25 => ?_, fun c hc => ?_, Hist.back (nx := 0) (lt := 7) (by decide) (by decide) hm hm0 h5 h6 hS hw (fun c hc => ?_) rfl ?_ ?_⟩
  · rw [up2_row _ _ _ _ h25, up2_row _ _ _ _ h25, cpA_ne (by omega)]
  · exact cpJ_ne (by omega)
  · rw [up2_row _ _ _ _ hc, up2_row _ _ _ _ hc]
  · rw [up2_ne2 _ _ _ _ (by decide), up2_same]; rfl
  · rw [up2_same]; omega
theorem sp_back_1 (X : AX) (I J : Nat → Nat → Int) (cc ss : Nat) {hs : Nat → F1} {m : Nat} (hn : I 13 1 = 1) (hk : I 13 2 = (m : Int)) (hm : m ≤ 8) (hm0 : 0 < m) (h5 : ∀ q, q < m → SetR I J (rng8 (1 + 8 - m + q)) (hs q)) (h6 : ∀ q, q < 8 → WD I (rng8 q)) (hS : WD I 1) (hw : WF (hs (m - 1))) : Ev X k_X1_bringBack (0, [some (vr 13), some (vr 1), none, none], []) (MS I J cc ss) (PV cc ss none (fun I' J' => (∀ c, c = 0 ∨ 12 < c → c ≠ 13 → I' c = I c) ∧ (∀ c, c = 0 ∨ 12 < c → J' c = J c) ∧ Hist I' J' hs (m - 1) ∧ SetR I' J' 1 (hs (m - 1)))) := by
  refine ev_n (fr' := (4, [some (vr 13), some (vr 1), none, none], [vi (I 13 1)])) (S' := MS I J cc ss) 2 rfl ?_
  refine ev_eqi (hn) ?_
  show Ev X k_X1_bringBack (4, [some (vr 13), some (vr 1), none, none], [vi 1]) (MS I J cc ss) _
  refine ev_n (fr' := (12, [some (vr 13), some (vr 1), none, none], [vi (opI fRem 8 8)])) (S' := MS I J cc ss) 6 rfl ?_
  refine ev_eqi (show opI fRem 8 8 = 0 by decide) ?_
  show Ev X k_X1_bringBack (12, [some (vr 13), some (vr 1), none, none], [vi 0]) (MS I J cc ss) _
  refine ev_n (fr' := (15, [some (vr 13), some (vr 1), some (vi 0), none], [vi 0, vr 13])) (S' := MS I J cc ss) 3 rfl ?_
  refine ev_cv rfl rfl rfl ⟨Nat.le_of_ble_eq_true rfl, Nat.le_of_ble_eq_true rfl⟩ (sp_at_0 X _ _ _ _) ?_
  show Ev X k_X1_bringBack (18, [some (vr 13), some (vr 1), some (vi 0), none], [vr 15]) (MS I J cc ss) _
  refine ev_n (fr' := (27, [some (vr 13), some (vr 1), some (vi 0), some (vr 15)], [vi (I 13 2)])) (S' := MS I J cc ss) 5 rfl ?_
  refine ev_eqi (hk) ?_
  show Ev X k_X1_bringBack (27, [some (vr 13), some (vr 1), some (vi 0), some (vr 15)], [vi (m : Int)]) (MS I J cc ss) _
  refine ev_if (c := .ne) (off := 4) rfl (by decide) (fun (g1 : (m : Int) ≠ 0) => ?_) (fun (g1 : ¬ ((m : Int) ≠ 0)) => False.elim (by omega))
  show Ev X k_X1_bringBack (31, [some (vr 13), some (vr 1), some (vi 0), some (vr 15)], []) (MS I J cc ss) _
  refine ev_n (fr' := (33, [some (vr 13), some (vr 1), some (vi 0), some (vr 15)], [vr 15, vr 1])) (S' := MS I J cc ss) 2 rfl ?_
  refine ev_cv rfl rfl rfl ⟨Nat.le_of_ble_eq_true rfl, Nat.le_of_ble_eq_true rfl⟩ (sp_cpA_1_15 X _ _ _ _) ?_
  show Ev X k_X1_bringBack (36, [some (vr 13), some (vr 1), some (vi 0), some (vr 15)], []) (MS ((cpA I 1 15)) ((cpJ J 1 15)) cc ss) _
  refine ev_n (fr' := (38, [some (vr 13), some (vr 1), some (vi 0), some (vr 15)], [vi 0, vr 13])) (S' := MS ((cpA I 1 15)) ((cpJ J 1 15)) cc ss) 2 rfl ?_
  refine ev_n (fr' := (41, [some (vr 13), some (vr 1), some (vi 0), some (vr 15)], [])) (S' := MS (up2 ((cpA I 1 15)) 13 1 0) ((cpJ J 1 15)) cc ss) 1 rfl ?_
  refine ev_n (fr' := (46, [some (vr 13), some (vr 1), some (vi 0), some (vr 15)], [vi (((cpA I 1 15)) 13 2), vr 13])) (S' := MS (up2 ((cpA I 1 15)) 13 1 0) ((cpJ J 1 15)) cc ss) 3 rfl ?_
  refine ev_eqi (show (((cpA I 1 15)) 13 2) = (m : Int) from (congrFun (cpA_ne (by omega)) 2).trans hk) ?_
  show Ev X k_X1_bringBack (46, [some (vr 13), some (vr 1), some (vi 0), some (vr 15)], [vi (m : Int), vr 13]) (MS (up2 ((cpA I 1 15)) 13 1 0) ((cpJ J 1 15)) cc ss) _
  refine ev_n (fr' := (47, [some (vr 13), some (vr 1), some (vi 0), some (vr 15)], [vi 1, vi (m : Int), vr 13])) (S' := MS (up2 ((cpA I 1 15)) 13 1 0) ((cpJ J 1 15)) cc ss) 1 rfl ?_
  refine ev_sub (z := (m : Int) - 1) rfl (by omega) (by omega) (by omega) ?_
  show Ev X k_X1_bringBack (48, [some (vr 13), some (vr 1), some (vi 0), some (vr 15)], [vi ((m : Int) - 1), vr 13]) (MS (up2 ((cpA I 1 15)) 13 1 0) ((cpJ J 1 15)) cc ss) _
  refine ev_n (fr' := (51, [some (vr 13), some (vr 1), some (vi 0), some (vr 15)], [])) (S' := MS (up2 (up2 ((cpA I 1 15)) 13 1 0) 13 2 ((m : Int) - 1)) ((cpJ J 1 15)) cc ss) 1 rfl ?_
  refine ev_r rfl rfl rfl ?_
  refine ⟨_, _, rfl, rfl, fun c hc h25 => ?_, fun c hc => ?_, Hist.back (nx := 1) (lt := 0) (by decide) (by decide) hm hm0 h5 h6 hS hw (fun c hc => ?_) rfl ?_ ?_⟩
  · rw [up2_row _ _ _ _ h25, up2_row _ _ _ _ h25, cpA_ne (by omega)]
  · exact cpJ_ne (by omega)
  · rw [up2_row _ _ _ _ hc, up2_row _ _ _ _ hc]
  · rw [up2_ne2 _ _ _ _ (by decide), up2_same]; rfl
  · rw [up2_same]; omega
theorem sp_back_2 (X : AX) (I J : Nat → Nat → Int) (cc ss : Nat) {hs : Nat → F1} {m : Nat} (hn : I 13 1 = 2) (hk : I 13 2 = (m : Int)) (hm : m ≤ 8) (hm0 : 0 < m) (h5 : ∀ q, q < m → SetR I J (rng8 (2 + 8 - m + q)) (hs q)) (h6 : ∀ q, q < 8 → WD I (rng8 q)) (hS : WD I 1) (hw : WF (hs (m - 1))) : Ev X k_X1_bringBack (0, [some (vr 13), some (vr 1), none, none], []) (MS I J cc ss) (PV cc ss none (fun I' J' => (∀ c, c = 0 ∨ 12 < c → c ≠ 13 → I' c = I c) ∧ (∀ c, c = 0 ∨ 12 < c → J' c = J c) ∧ Hist I' J' hs (m - 1) ∧ SetR I' J' 1 (hs (m - 1)))) := by
  refine ev_n (fr' := (4, [some (vr 13), some (vr 1), none, none], [vi (I 13 1)])) (S' := MS I J cc ss) 2 rfl ?_
  refine ev_eqi (hn) ?_
  show Ev X k_X1_bringBack (4, [some (vr 13), some (vr 1), none, none], [vi 2]) (MS I J cc ss) _
  refine ev_n (fr' := (12, [some (vr 13), some (vr 1), none, none], [vi (opI fRem 9 8)])) (S' := MS I J cc ss) 6 rfl ?_
  refine ev_eqi (show opI fRem 9 8 = 1 by decide) ?_
  show Ev X k_X1_bringBack (12, [some (vr 13), some (vr 1), none, none], [vi 1]) (MS I J cc ss) _
  refine ev_n (fr' := (15, [some (vr 13), some (vr 1), some (vi 1), none], [vi 1, vr 13])) (S' := MS I J cc ss) 3 rfl ?_
  refine ev_cv rfl rfl rfl ⟨Nat.le_of_ble_eq_true rfl, Nat.le_of_ble_eq_true rfl⟩ (sp_at_1 X _ _ _ _) ?_
  show Ev X k_X1_bringBack (18, [some (vr 13), some (vr 1), some (vi 1), none], [vr 27]) (MS I J cc ss) _
  refine ev_n (fr' := (27, [some (vr 13), some (vr 1), some (vi 1), some (vr 27)], [vi (I 13 2)])) (S' := MS I J cc ss) 5 rfl ?_
  refine ev_eqi (hk) ?_
  show Ev X k_X1_bringBack (27, [some (vr 13), some (vr 1), some (vi 1), some (vr 27)], [vi (m : Int)]) (MS I J cc ss) _
  refine ev_if (c := .ne) (off := 4) rfl (by decide) (fun (g1 : (m : Int) ≠ 0) => ?_) (fun (g1 : ¬ ((m : Int) ≠ 0)) => False.elim (by omega))
  show Ev X k_X1_bringBack (31, [some (vr 13), some (vr 1), some (vi 1), some (vr 27)], []) (MS I J cc ss) _
  refine ev_n (fr' := (33, [some (vr 13), some (vr 1), some (vi 1), some (vr 27)], [vr 27, vr 1])) (S' := MS I J cc ss) 2 rfl ?_
  refine ev_cv rfl rfl rfl ⟨Nat.le_of_ble_eq_true rfl, Nat.le_of_ble_eq_true rfl⟩ (sp_cpA_1_27 X _ _ _ _) ?_
  show Ev X k_X1_bringBack (36, [some (vr 13), some (vr 1), some (vi 1), some (vr 27)], []) (MS ((cpA I 1 27)) ((cpJ J 1 27)) cc ss) _
  refine ev_n (fr' := (38, [some (vr 13), some (vr 1), some (vi 1), some (vr 27)], [vi 1, vr 13])) (S' := MS ((cpA I 1 27)) ((cpJ J 1 27)) cc ss) 2 rfl ?_
  refine ev_n (fr' := (41, [some (vr 13), some (vr 1), some (vi 1), some (vr 27)], [])) (S' := MS (up2 ((cpA I 1 27)) 13 1 1) ((cpJ J 1 27)) cc ss) 1 rfl ?_
  refine ev_n (fr' := (46, [some (vr 13), some (vr 1), some (vi 1), some (vr 27)], [vi (((cpA I 1 27)) 13 2), vr 13])) (S' := MS (up2 ((cpA I 1 27)) 13 1 1) ((cpJ J 1 27)) cc ss) 3 rfl ?_
  refine ev_eqi (show (((cpA I 1 27)) 13 2) = (m : Int) from (congrFun (cpA_ne (by omega)) 2).trans hk) ?_
  show Ev X k_X1_bringBack (46, [some (vr 13), some (vr 1), some (vi 1), some (vr 27)], [vi (m : Int), vr 13]) (MS (up2 ((cpA I 1 27)) 13 1 1) ((cpJ J 1 27)) cc ss) _
  refine ev_n (fr' := (47, [some (vr 13), some (vr 1), some (vi 1), some (vr 27)], [vi 1, vi (m : Int), vr 13])) (S' := MS (up2 ((cpA I 1 27)) 13 1 1) ((cpJ J 1 27)) cc ss) 1 rfl ?_
  refine ev_sub (z := (m : Int) - 1) rfl (by omega) (by omega) (by omega) ?_
  show Ev X k_X1_bringBack (48, [some (vr 13), some (vr 1), some (vi 1), some (vr 27)], [vi ((m : Int) - 1), vr 13]) (MS (up2 ((cpA I 1 27)) 13 1 1) ((cpJ J 1 27)) cc ss) _
  refine ev_n (fr' := (51, [some (vr 13), some (vr 1), some (vi 1), some (vr 27)], [])) (S' := MS (up2 (up2 ((cpA I 1 27)) 13 1 1) 13 2 ((m : Int) - 1)) ((cpJ J 1 27)) cc ss) 1 rfl ?_
  refine ev_r rfl rfl rfl ?_
  refine ⟨_, _, rfl, rfl, fun c hc h25 => ?_, fun c hc => ?_, Hist.back (nx := 2) (lt := 1) (by decide) (by decide) hm hm0 h5 h6 hS hw (fun c hc => ?_) rfl ?_ ?_⟩
  · rw [up2_row _ _ _ _ h25, up2_row _ _ _ _ h25, cpA_ne (by omega)]
  · exact cpJ_ne (by omega)
  · rw [up2_row _ _ _ _ hc, up2_row _ _ _ _ hc]
  · rw [up2_ne2 _ _ _ _ (by decide), up2_same]; rfl
  · rw [up2_same]; omega
theorem sp_back_3 (X : AX) (I J : Nat → Nat → Int) (cc ss : Nat) {hs : Nat → F1} {m : Nat} (hn : I 13 1 = 3) (hk : I 13 2 = (m : Int)) (hm : m ≤ 8) (hm0 : 0 < m) (h5 : ∀ q, q < m → SetR I J (rng8 (3 + 8 - m + q)) (hs q)) (h6 : ∀ q, q < 8 → WD I (rng8 q)) (hS : WD I 1) (hw : WF (hs (m - 1))) : Ev X k_X1_bringBack (0, [some (vr 13), some (vr 1), none, none], []) (MS I J cc ss) (PV cc ss none (fun I' J' => (∀ c, c = 0 ∨ 12 < c → c ≠ 13 → I' c = I c) ∧ (∀ c, c = 0 ∨ 12 < c → J' c = J c) ∧ Hist I' J' hs (m - 1) ∧ SetR I' J' 1 (hs (m - 1)))) := by
  refine ev_n (fr' := (4, [some (vr 13), some (vr 1), none, none], [vi (I 13 1)])) (S' := MS I J cc ss) 2 rfl ?_
  refine ev_eqi (hn) ?_
  show Ev X k_X1_bringBack (4, [some (vr 13), some (vr 1), none, none], [vi 3]) (MS I J cc ss) _
  refine ev_n (fr' := (12, [some (vr 13), some (vr 1), none, none], [vi (opI fRem 10 8)])) (S' := MS I J cc ss) 6 rfl ?_
  refine ev_eqi (show opI fRem 10 8 = 2 by decide) ?_
  show Ev X k_X1_bringBack (12, [some (vr 13), some (vr 1), none, none], [vi 2]) (MS I J cc ss) _
  refine ev_n (fr' := (15, [some (vr 13), some (vr 1), some (vi 2), none], [vi 2, vr 13])) (S' := MS I J cc ss) 3 rfl ?_
  refine ev_cv rfl rfl rfl ⟨Nat.le_of_ble_eq_true rfl, Nat.le_of_ble_eq_true rfl⟩ (sp_at_2 X _ _ _ _) ?_
  show Ev X k_X1_bringBack (18, [some (vr 13), some (vr 1), some (vi 2), none], [vr 39]) (MS I J cc ss) _
  refine ev_n (fr' := (27, [some (vr 13), some (vr 1), some (vi 2), some (vr 39)], [vi (I 13 2)])) (S' := MS I J cc ss) 5 rfl ?_
  refine ev_eqi (hk) ?_
  show Ev X k_X1_bringBack (27, [some (vr 13), some (vr 1), some (vi 2), some (vr 39)], [vi (m : Int)]) (MS I J cc ss) _
  refine ev_if (c := .ne) (off := 4) rfl (by decide) (fun (g1 : (m : Int) ≠ 0) => ?_) (fun (g1 : ¬ ((m : Int) ≠ 0)) => False.elim (by omega))
  show Ev X k_X1_bringBack (31, [some (vr 13), some (vr 1), some (vi 2), some (vr 39)], []) (MS I J cc ss) _
  refine ev_n (fr' := (33, [some (vr 13), some (vr 1), some (vi 2), some (vr 39)], [vr 39, vr 1])) (S' := MS I J cc ss) 2 rfl ?_
  refine ev_cv rfl rfl rfl ⟨Nat.le_of_ble_eq_true rfl, Nat.le_of_ble_eq_true rfl⟩ (sp_cpA_1_39 X _ _ _ _) ?_
  show Ev X k_X1_bringBack (36, [some (vr 13), some (vr 1), some (vi 2), some (vr 39)], []) (MS ((cpA I 1 39)) ((cpJ J 1 39)) cc ss) _
  refine ev_n (fr' := (38, [some (vr 13), some (vr 1), some (vi 2), some (vr 39)], [vi 2, vr 13])) (S' := MS ((cpA I 1 39)) ((cpJ J 1 39)) cc ss) 2 rfl ?_
  refine ev_n (fr' := (41, [some (vr 13), some (vr 1), some (vi 2), some (vr 39)], [])) (S' := MS (up2 ((cpA I 1 39)) 13 1 2) ((cpJ J 1 39)) cc ss) 1 rfl ?_
  refine ev_n (fr' := (46, [some (vr 13), some (vr 1), some (vi 2), some (vr 39)], [vi (((cpA I 1 39)) 13 2), vr 13])) (S' := MS (up2 ((cpA I 1 39)) 13 1 2) ((cpJ J 1 39)) cc ss) 3 rfl ?_
  refine ev_eqi (show (((cpA I 1 39)) 13 2) = (m : Int) from (congrFun (cpA_ne (by omega)) 2).trans hk) ?_
  show Ev X k_X1_bringBack (46, [some (vr 13), some (vr 1), some (vi 2), some (vr 39)], [vi (m : Int), vr 13]) (MS (up2 ((cpA I 1 39)) 13 1 2) ((cpJ J 1 39)) cc ss) _
  refine ev_n (fr' := (47, [some (vr 13), some (vr 1), some (vi 2), some (vr 39)], [vi 1, vi (m : Int), vr 13])) (S' := MS (up2 ((cpA I 1 39)) 13 1 2) ((cpJ J 1 39)) cc ss) 1 rfl ?_
  refine ev_sub (z := (m : Int) - 1) rfl (by omega) (by omega) (by omega) ?_
  show Ev X k_X1_bringBack (48, [some (vr 13), some (vr 1), some (vi 2), some (vr 39)], [vi ((m : Int) - 1), vr 13]) (MS (up2 ((cpA I 1 39)) 13 1 2) ((cpJ J 1 39)) cc ss) _
  refine ev_n (fr' := (51, [some (vr 13), some (vr 1), some (vi 2), some (vr 39)], [])) (S' := MS (up2 (up2 ((cpA I 1 39)) 13 1 2) 13 2 ((m : Int) - 1)) ((cpJ J 1 39)) cc ss) 1 rfl ?_
  refine ev_r rfl rfl rfl ?_
  refine ⟨_, _, rfl, rfl, fun c hc h25 => ?_, fun c hc => ?_, Hist.back (nx := 3) (lt := 2) (by decide) (by decide) hm hm0 h5 h6 hS hw (fun c hc => ?_) rfl ?_ ?_⟩
  · rw [up2_row _ _ _ _ h25, up2_row _ _ _ _ h25, cpA_ne (by omega)]
  · exact cpJ_ne (by omega)
  · rw [up2_row _ _ _ _ hc, up2_row _ _ _ _ hc]
  · rw [up2_ne2 _ _ _ _ (by decide), up2_same]; rfl
  · rw [up2_same]; omega
theorem sp_back_4 (X : AX) (I J : Nat → Nat → Int) (cc ss : Nat) {hs : Nat → F1} {m : Nat} (hn : I 13 1 = 4) (hk : I 13 2 = (m : Int)) (hm : m ≤ 8) (hm0 : 0 < m) (h5 : ∀ q, q < m → SetR I J (rng8 (4 + 8 - m + q)) (hs q)) (h6 : ∀ q, q < 8 → WD I (rng8 q)) (hS : WD I 1) (hw : WF (hs (m - 1))) : Ev X k_X1_bringBack (0, [some (vr 13), some (vr 1), none, none], []) (MS I J cc ss) (PV cc ss none (fun I' J' => (∀ c, c = 0 ∨ 12 < c → c ≠ 13 → I' c = I c) ∧ (∀ c, c = 0 ∨ 12 < c → J' c = J c) ∧ Hist I' J' hs (m - 1) ∧ SetR I' J' 1 (hs (m - 1)))) := by
  refine ev_n (fr' := (4, [some (vr 13), some (vr 1), none, none], [vi (I 13 1)])) (S' := MS I J cc ss) 2 rfl ?_
  refine ev_eqi (hn) ?_
  show Ev X k_X1_bringBack (4, [some (vr 13), some (vr 1), none, none], [vi 4]) (MS I J cc ss) _
  refine ev_n (fr' := (12, [some (vr 13), some (vr 1), none, none], [vi (opI fRem 11 8)])) (S' := MS I J cc ss) 6 rfl ?_
  refine ev_eqi (show opI fRem 11 8 = 3 by decide) ?_
  show Ev X k_X1_bringBack (12, [some (vr 13), some (vr 1), none, none], [vi 3]) (MS I J cc ss) _
  refine ev_n (fr' := (15, [some (vr 13), some (vr 1), some (vi 3), none], [vi 3, vr 13])) (S' := MS I J cc ss) 3 rfl ?_
  refine ev_cv rfl rfl rfl ⟨Nat.le_of_ble_eq_true rfl, Nat.le_of_ble_eq_true rfl⟩ (sp_at_3 X _ _ _ _) ?_
  show Ev X k_X1_bringBack (18, [some (vr 13), some (vr 1), some (vi 3), none], [vr 51]) (MS I J cc ss) _
  refine ev_n (fr' := (27, [some (vr 13), some (vr 1), some (vi 3), some (vr 51)], [vi (I 13 2)])) (S' := MS I J cc ss) 5 rfl ?_
  refine ev_eqi (hk) ?_
  show Ev X k_X1_bringBack (27, [some (vr 13), some (vr 1), some (vi 3), some (vr 51)], [vi (m : Int)]) (MS I J cc ss) _
  refine ev_if (c := .ne) (off := 4) rfl (by decide) (fun (g1 : (m : Int) ≠ 0) => ?_) (fun (g1 : ¬ ((m : Int) ≠ 0)) => False.elim (by omega))
  show Ev X k_X1_bringBack (31, [some (vr 13), some (vr 1), some (vi 3), some (vr 51)], []) (MS I J cc ss) _
  refine ev_n (fr' := (33, [some (vr 13), some (vr 1), some (vi 3), some (vr 51)], [vr 51, vr 1])) (S' := MS I J cc ss) 2 rfl ?_
  refine ev_cv rfl rfl rfl ⟨Nat.le_of_ble_eq_true rfl, Nat.le_of_ble_eq_true rfl⟩ (sp_cpA_1_51 X _ _ _ _) ?_
  show Ev X k_X1_bringBack (36, [some (vr 13), some (vr 1), some (vi 3), some (vr 51)], []) (MS ((cpA I 1 51)) ((cpJ J 1 51)) cc ss) _
  refine ev_n (fr' := (38, [some (vr 13), some (vr 1), some (vi 3), some (vr 51)], [vi 3, vr 13])) (S' := MS ((cpA I 1 51)) ((cpJ J 1 51)) cc ss) 2 rfl ?_
  refine ev_n (fr' := (41, [some (vr 13), some (vr 1), some (vi 3), some (vr 51)], [])) (S' := MS (up2 ((cpA I 1 51)) 13 1 3) ((cpJ J 1 51)) cc ss) 1 rfl ?_
  refine ev_n (fr' := (46, [some (vr 13), some (vr 1), some (vi 3), some (vr 51)], [vi (((cpA I 1 51)) 13 2), vr 13])) (S' := MS (up2 ((cpA I 1 51)) 13 1 3) ((cpJ J 1 51)) cc ss) 3 rfl ?_
  refine ev_eqi (show (((cpA I 1 51)) 13 2) = (m : Int) from (congrFun (cpA_ne (by omega)) 2).trans hk) ?_
  show Ev X k_X1_bringBack (46, [some (vr 13), some (vr 1), some (vi 3), some (vr 51)], [vi (m : Int), vr 13]) (MS (up2 ((cpA I 1 51)) 13 1 3) ((cpJ J 1 51)) cc ss) _
  refine ev_n (fr' := (47, [some (vr 13), some (vr 1), some (vi 3), some (vr 51)], [vi 1, vi (m : Int), vr 13])) (S' := MS (up2 ((cpA I 1 51)) 13 1 3) ((cpJ J 1 51)) cc ss) 1 rfl ?_
  refine ev_sub (z := (m : Int) - 1) rfl (by omega) (by omega) (by omega) ?_
  show Ev X k_X1_bringBack (48, [some (vr 13), some (vr 1), some (vi 3), some (vr 51)], [vi ((m : Int) - 1), vr 13]) (MS (up2 ((cpA I 1 51)) 13 1 3) ((cpJ J 1 51)) cc ss) _
  refine ev_n (fr' := (51, [some (vr 13), some (vr 1), some (vi 3), some (vr 51)], [])) (S' := MS (up2 (up2 ((cpA I 1 51)) 13 1 3) 13 2 ((m : Int) - 1)) ((cpJ J 1 51)) cc ss) 1 rfl ?_
  refine ev_r rfl rfl rfl ?_
  refine ⟨_, _, rfl, rfl, fun c hc h25 => ?_, fun c hc => ?_, Hist.back (nx := 4) (lt := 3) (by decide) (by decide) hm hm0 h5 h6 hS hw (fun c hc => ?_) rfl ?_ ?_⟩
  · rw [up2_row _ _ _ _ h25, up2_row _ _ _ _ h25, cpA_ne (by omega)]
  · exact cpJ_ne (by omega)
  · rw [up2_row _ _ _ _ hc, up2_row _ _ _ _ hc]
  · rw [up2_ne2 _ _ _ _ (by decide), up2_same]; rfl
  · rw [up2_same]; omega
theorem sp_back_5 (X : AX) (I J : Nat → Nat → Int) (cc ss : Nat) {hs : Nat → F1} {m : Nat} (hn : I 13 1 = 5) (hk : I 13 2 = (m : Int)) (hm : m ≤ 8) (hm0 : 0 < m) (h5 : ∀ q, q < m → SetR I J (rng8 (5 + 8 - m + q)) (hs q)) (h6 : ∀ q, q < 8 → WD I (rng8 q)) (hS : WD I 1) (hw : WF (hs (m - 1))) : Ev X k_X1_bringBack (0, [some (vr 13), some (vr 1), none, none], []) (MS I J cc ss) (PV cc ss none (fun I' J' => (∀ c, c = 0 ∨ 12 < c → c ≠ 13 → I' c = I c) ∧ (∀ c, c = 0 ∨ 12 < c → J' c = J c) ∧ Hist I' J' hs (m - 1) ∧ SetR I' J' 1 (hs (m - 1)))) := by
  refine ev_n (fr' := (4, [some (vr 13), some (vr 1), none, none], [vi (I 13 1)])) (S' := MS I J cc ss) 2 rfl ?_
  refine ev_eqi (hn) ?_
  show Ev X k_X1_bringBack (4, [some (vr 13), some (vr 1), none, none], [vi 5]) (MS I J cc ss) _
  refine ev_n (fr' := (12, [some (vr 13), some (vr 1), none, none], [vi (opI fRem 12 8)])) (S' := MS I J cc ss) 6 rfl ?_
  refine ev_eqi (show opI fRem 12 8 = 4 by decide) ?_
  show Ev X k_X1_bringBack (12, [some (vr 13), some (vr 1), none, none], [vi 4]) (MS I J cc ss) _
  refine ev_n (fr' := (15, [some (vr 13), some (vr 1), some (vi 4), none], [vi 4, vr 13])) (S' := MS I J cc ss) 3 rfl ?_
  refine ev_cv rfl rfl rfl ⟨Nat.le_of_ble_eq_true rfl, Nat.le_of_ble_eq_true rfl⟩ (sp_at_4 X _ _ _ _) ?_
  show Ev X k_X1_bringBack (18, [some (vr 13), some (vr 1), some (vi 4), none], [vr 63]) (MS I J cc ss) _
  refine ev_n (fr' := (27, [some (vr 13), some (vr 1), some (vi 4), some (vr 63)], [vi (I 13 2)])) (S' := MS I J cc ss) 5 rfl ?_
  refine ev_eqi (hk) ?_
  show Ev X k_X1_bringBack (27, [some (vr 13), some (vr 1), some (vi 4), some (vr 63)], [vi (m : Int)]) (MS I J cc ss) _
  refine ev_if (c := .ne) (off := 4) rfl (by decide) (fun (g1 : (m : Int) ≠ 0) => ?_) (fun (g1 : ¬ ((m : Int) ≠ 0)) => False.elim (by omega))
  show Ev X k_X1_bringBack (31, [some (vr 13), some (vr 1), some (vi 4), some (vr 63)], []) (MS I J cc ss) _
  refine ev_n (fr' := (33, [some (vr 13), some (vr 1), some (vi 4), some (vr 63)], [vr 63, vr 1])) (S' := MS I J cc ss) 2 rfl ?_
  refine ev_cv rfl rfl rfl ⟨Nat.le_of_ble_eq_true rfl, Nat.le_of_ble_eq_true rfl⟩ (sp_cpA_1_63 X _ _ _ _) ?_
  show Ev X k_X1_bringBack (36, [some (vr 13), some (vr 1), some (vi 4), some (vr 63)], []) (MS ((cpA I 1 63)) ((cpJ J 1 63)) cc ss) _
  refine ev_n (fr' := (38, [some (vr 13), some (vr 1), some (vi 4), some (vr 63)], [vi 4, vr 13])) (S' := MS ((cpA I 1 63)) ((cpJ J 1 63)) cc ss) 2 rfl ?_
  refine ev_n (fr' := (41, [some (vr 13), some (vr 1), some (vi 4), some (vr 63)], [])) (S' := MS (up2 ((cpA I 1 63)) 13 1 4) ((cpJ J 1 63)) cc ss) 1 rfl ?_
  refine ev_n (fr' := (46, [some (vr 13), some (vr 1), some (vi 4), some (vr 63)], [vi (((cpA I 1 63)) 13 2), vr 13])) (S' := MS (up2 ((cpA I 1 63)) 13 1 4) ((cpJ J 1 63)) cc ss) 3 rfl ?_
  refine ev_eqi (show (((cpA I 1 63)) 13 2) = (m : Int) from (congrFun (cpA_ne (by omega)) 2).trans hk) ?_
  show Ev X k_X1_bringBack (46, [some (vr 13), some (vr 1), some (vi 4), some (vr 63)], [vi (m : Int), vr 13]) (MS (up2 ((cpA I 1 63)) 13 1 4) ((cpJ J 1 63)) cc ss) _
  refine ev_n (fr' := (47, [some (vr 13), some (vr 1), some (vi 4), some (vr 63)], [vi 1, vi (m : Int), vr 13])) (S' := MS (up2 ((cpA I 1 63)) 13 1 4) ((cpJ J 1 63)) cc ss) 1 rfl ?_
  refine ev_sub (z := (m : Int) - 1) rfl (by omega) (by omega) (by omega) ?_
  show Ev X k_X1_bringBack (48, [some (vr 13), some (vr 1), some (vi 4), some (vr 63)], [vi ((m : Int) - 1), vr 13]) (MS (up2 ((cpA I 1 63)) 13 1 4) ((cpJ J 1 63)) cc ss) _
  refine ev_n (fr' := (51, [some (vr 13), some (vr 1), some (vi 4), some (vr 63)], [])) (S' := MS (up2 (up2 ((cpA I 1 63)) 13 1 4) 13 2 ((m : Int) - 1)) ((cpJ J 1 63)) cc ss) 1 rfl ?_
  refine ev_r rfl rfl rfl ?_
  refine ⟨_, _, rfl, rfl, fun c hc h25 => ?_, fun c hc => ?_, Hist.back (nx := 5) (lt := 4) (by decide) (by decide) hm hm0 h5 h6 hS hw (fun c hc => ?_) rfl ?_ ?_⟩
  · rw [up2_row _ _ _ _ h25, up2_row _ _ _ _ h25, cpA_ne (by omega)]
  · exact cpJ_ne (by omega)
  · rw [up2_row _ _ _ _ hc, up2_row _ _ _ _ hc]
  · rw [up2_ne2 _ _ _ _ (by decide), up2_same]; rfl
  · rw [up2_same]; omega
theorem sp_back_6 (X : AX) (I J : Nat → Nat → Int) (cc ss : Nat) {hs : Nat → F1} {m : Nat} (hn : I 13 1 = 6) (hk : I 13 2 = (m : Int)) (hm : m ≤ 8) (hm0 : 0 < m) (h5 : ∀ q, q < m → SetR I J (rng8 (6 + 8 - m + q)) (hs q)) (h6 : ∀ q, q < 8 → WD I (rng8 q)) (hS : WD I 1) (hw : WF (hs (m - 1))) : Ev X k_X1_bringBack (0, [some (vr 13), some (vr 1), none, none], []) (MS I J cc ss) (PV cc ss none (fun I' J' => (∀ c, c = 0 ∨ 12 < c → c ≠ 13 → I' c = I c) ∧ (∀ c, c = 0 ∨ 12 < c → J' c = J c) ∧ Hist I' J' hs (m - 1) ∧ SetR I' J' 1 (hs (m - 1)))) := by
  refine ev_n (fr' := (4, [some (vr 13), some (vr 1), none, none], [vi (I 13 1)])) (S' := MS I J cc ss) 2 rfl ?_
  refine ev_eqi (hn) ?_
  show Ev X k_X1_bringBack (4, [some (vr 13), some (vr 1), none, none], [vi 6]) (MS I J cc ss) _
  refine ev_n (fr' := (12, [some (vr 13), some (vr 1), none, none], [vi (opI fRem 13 8)])) (S' := MS I J cc ss) 6 rfl ?_
  refine ev_eqi (show opI fRem 13 8 = 5 by decide) ?_
  show Ev X k_X1_bringBack (12, [some (vr 13), some (vr 1), none, none], [vi 5]) (MS I J cc ss) _
  refine ev_n (fr' := (15, [some (vr 13), some (vr 1), some (vi 5), none], [vi 5, vr 13])) (S' := MS I J cc ss) 3 rfl ?_
  refine ev_cv rfl rfl rfl ⟨Nat.le_of_ble_eq_true rfl, Nat.le_of_ble_eq_true rfl⟩ (sp_at_5 X _ _ _ _) ?_
  show Ev X k_X1_bringBack (18, [some (vr 13), some (vr 1), some (vi 5), none], [vr 75]) (MS I J cc ss) _
  refine ev_n (fr' := (27, [some (vr 13), some (vr 1), some (vi 5), some (vr 75)], [vi (I 13 2)])) (S' := MS I J cc ss) 5 rfl ?_
  refine ev_eqi (hk) ?_
  show Ev X k_X1_bringBack (27, [some (vr 13), some (vr 1), some (vi 5), some (vr 75)], [vi (m : Int)]) (MS I J cc ss) _
  refine ev_if (c := .ne) (off := 4) rfl (by decide) (fun (g1 : (m : Int) ≠ 0) => ?_) (fun (g1 : ¬ ((m : Int) ≠ 0)) => False.elim (by omega))
  show Ev X k_X1_bringBack (31, [some (vr 13), some (vr 1), some (vi 5), some (vr 75)], []) (MS I J cc ss) _
  refine ev_n (fr' := (33, [some (vr 13), some (vr 1), some (vi 5), some (vr 75)], [vr 75, vr 1])) (S' := MS I J cc ss) 2 rfl ?_
  refine ev_cv rfl rfl rfl ⟨Nat.le_of_ble_eq_true rfl, Nat.le_of_ble_eq_true rfl⟩ (sp_cpA_1_75 X _ _ _ _) ?_
  show Ev X k_X1_bringBack (36, [some (vr 13), some (vr 1), some (vi 5), some (vr 75)], []) (MS ((cpA I 1 75)) ((cpJ J 1 75)) cc ss) _
  refine ev_n (fr' := (38, [some (vr 13), some (vr 1), some (vi 5), some (vr 75)], [vi 5, vr 13])) (S' := MS ((cpA I 1 75)) ((cpJ J 1 75)) cc ss) 2 rfl ?_
  refine ev_n (fr' := (41, [some (vr 13), some (vr 1), some (vi 5), some (vr 75)], [])) (S' := MS (up2 ((cpA I 1 75)) 13 1 5) ((cpJ J 1 75)) cc ss) 1 rfl ?_
  refine ev_n (fr' := (46, [some (vr 13), some (vr 1), some (vi 5), some (vr 75)], [vi (((cpA I 1 75)) 13 2), vr 13])) (S' := MS (up2 ((cpA I 1 75)) 13 1 5) ((cpJ J 1 75)) cc ss) 3 rfl ?_
  refine ev_eqi (show (((cpA I 1 75)) 13 2) = (m : Int) from (congrFun (cpA_ne (by omega)) 2).trans hk) ?_
  show Ev X k_X1_bringBack (46, [some (vr 13), some (vr 1), some (vi 5), some (vr 75)], [vi (m : Int), vr 13]) (MS (up2 ((cpA I 1 75)) 13 1 5) ((cpJ J 1 75)) cc ss) _
  refine ev_n (fr' := (47, [some (vr 13), some (vr 1), some (vi 5), some (vr 75)], [vi 1, vi (m : Int), vr 13])) (S' := MS (up2 ((cpA I 1 75)) 13 1 5) ((cpJ J 1 75)) cc ss) 1 rfl ?_
  refine ev_sub (z := (m : Int) - 1) rfl (by omega) (by omega) (by omega) ?_
  show Ev X k_X1_bringBack (48, [some (vr 13), some (vr 1), some (vi 5), some (vr 75)], [vi ((m : Int) - 1), vr 13]) (MS (up2 ((cpA I 1 75)) 13 1 5) ((cpJ J 1 75)) cc ss) _
  refine ev_n (fr' := (51, [some (vr 13), some (vr 1), some (vi 5), some (vr 75)], [])) (S' := MS (up2 (up2 ((cpA I 1 75)) 13 1 5) 13 2 ((m : Int) - 1)) ((cpJ J 1 75)) cc ss) 1 rfl ?_
  refine ev_r rfl rfl rfl ?_
  refine ⟨_, _, rfl, rfl, fun c hc h25 => ?_, fun c hc => ?_, Hist.back (nx := 6) (lt := 5) (by decide) (by decide) hm hm0 h5 h6 hS hw (fun c hc => ?_) rfl ?_ ?_⟩
  · rw [up2_row _ _ _ _ h25, up2_row _ _ _ _ h25, cpA_ne (by omega)]
  · exact cpJ_ne (by omega)
  · rw [up2_row _ _ _ _ hc, up2_row _ _ _ _ hc]
  · rw [up2_ne2 _ _ _ _ (by decide), up2_same]; rfl
  · rw [up2_same]; omega
theorem sp_back_7 (X : AX) (I J : Nat → Nat → Int) (cc ss : Nat) {hs : Nat → F1} {m : Nat} (hn : I 13 1 = 7) (hk : I 13 2 = (m : Int)) (hm : m ≤ 8) (hm0 : 0 < m) (h5 : ∀ q, q < m → SetR I J (rng8 (7 + 8 - m + q)) (hs q)) (h6 : ∀ q, q < 8 → WD I (rng8 q)) (hS : WD I 1) (hw : WF (hs (m - 1))) : Ev X k_X1_bringBack (0, [some (vr 13), some (vr 1), none, none], []) (MS I J cc ss) (PV cc ss none (fun I' J' => (∀ c, c = 0 ∨ 12 < c → c ≠ 13 → I' c = I c) ∧ (∀ c, c = 0 ∨ 12 < c → J' c = J c) ∧ Hist I' J' hs (m - 1) ∧ SetR I' J' 1 (hs (m - 1)))) := by
  refine ev_n (fr' := (4, [some (vr 13), some (vr 1), none, none], [vi (I 13 1)])) (S' := MS I J cc ss) 2 rfl ?_
  refine ev_eqi (hn) ?_
  show Ev X k_X1_bringBack (4, [some (vr 13), some (vr 1), none, none], [vi 7]) (MS I J cc ss) _
  refine ev_n (fr' := (12, [some (vr 13), some (vr 1), none, none], [vi (opI fRem 14 8)])) (S' := MS I J cc ss) 6 rfl ?_
  refine ev_eqi (show opI fRem 14 8 = 6 by decide) ?_
  show Ev X k_X1_bringBack (12, [some (vr 13), some (vr 1), none, none], [vi 6]) (MS I J cc ss) _
  refine ev_n (fr' := (15, [some (vr 13), some (vr 1), some (vi 6), none], [vi 6, vr 13])) (S' := MS I J cc ss) 3 rfl ?_
  refine ev_cv rfl rfl rfl ⟨Nat.le_of_ble_eq_true rfl, Nat.le_of_ble_eq_true rfl⟩ (sp_at_6 X _ _ _ _) ?_
  show Ev X k_X1_bringBack (18, [some (vr 13), some (vr 1), some (vi 6), none], [vr 87]) (MS I J cc ss) _
  refine ev_n (fr' := (27, [some (vr 13), some (vr 1), some (vi 6), some (vr 87)], [vi (I 13 2)])) (S' := MS I J cc ss) 5 rfl ?_
  refine ev_eqi (hk) ?_
  show Ev X k_X1_bringBack (27, [some (vr 13), some (vr 1), some (vi 6), some (vr 87)], [vi (m : Int)]) (MS I J cc ss) _
  refine ev_if (c := .ne) (off := 4) rfl (by decide) (fun (g1 : (m : Int) ≠ 0) => ?_) (fun (g1 : ¬ ((m : Int) ≠ 0)) => False.elim (by omega))
  show Ev X k_X1_bringBack (31, [some (vr 13), some (vr 1), some (vi 6), some (vr 87)], []) (MS I J cc ss) _
  refine ev_n (fr' := (33, [some (vr 13), some (vr 1), some (vi 6), some (vr 87)], [vr 87, vr 1])) (S' := MS I J cc ss) 2 rfl ?_
  refine ev_cv rfl rfl rfl ⟨Nat.le_of_ble_eq_true rfl, Nat.le_of_ble_eq_true rfl⟩ (sp_cpA_1_87 X _ _ _ _) ?_
  show Ev X k_X1_bringBack (36, [some (vr 13), some (vr 1), some (vi 6), some (vr 87)], []) (MS ((cpA I 1 87)) ((cpJ J 1 87)) cc ss) _
  refine ev_n (fr' := (38, [some (vr 13), some (vr 1), some (vi 6), some (vr 87)], [vi 6, vr 13])) (S' := MS ((cpA I 1 87)) ((cpJ J 1 87)) cc ss) 2 rfl ?_
  refine ev_n (fr' := (41, [some (vr 13), some (vr 1), some (vi 6), some (vr 87)], [])) (S' := MS (up2 ((cpA I 1 87)) 13 1 6) ((cpJ J 1 87)) cc ss) 1 rfl ?_
  refine ev_n (fr' := (46, [some (vr 13), some (vr 1), some (vi 6), some (vr 87)], [vi (((cpA I 1 87)) 13 2), vr 13])) (S' := MS (up2 ((cpA I 1 87)) 13 1 6) ((cpJ J 1 87)) cc ss) 3 rfl ?_
  refine ev_eqi (show (((cpA I 1 87)) 13 2) = (m : Int) from (congrFun (cpA_ne (by omega)) 2).trans hk) ?_
  show Ev X k_X1_bringBack (46, [some (vr 13), some (vr 1), some (vi 6), some (vr 87)], [vi (m : Int), vr 13]) (MS (up2 ((cpA I 1 87)) 13 1 6) ((cpJ J 1 87)) cc ss) _
  refine ev_n (fr' := (47, [some (vr 13), some (vr 1), some (vi 6), some (vr 87)], [vi 1, vi (m : Int), vr 13])) (S' := MS (up2 ((cpA I 1 87)) 13 1 6) ((cpJ J 1 87)) cc ss) 1 rfl ?_
  refine ev_sub (z := (m : Int) - 1) rfl (by omega) (by omega) (by omega) ?_
  show Ev X k_X1_bringBack (48, [some (vr 13), some (vr 1), some (vi 6), some (vr 87)], [vi ((m : Int) - 1), vr 13]) (MS (up2 ((cpA I 1 87)) 13 1 6) ((cpJ J 1 87)) cc ss) _
  refine ev_n (fr' := (51, [some (vr 13), some (vr 1), some (vi 6), some (vr 87)], [])) (S' := MS (up2 (up2 ((cpA I 1 87)) 13 1 6) 13 2 ((m : Int) - 1)) ((cpJ J 1 87)) cc ss) 1 rfl ?_
  refine ev_r rfl rfl rfl ?_
  refine ⟨_, _, rfl, rfl, fun c hc h25 => ?_, fun c hc => ?_, Hist.back (nx := 7) (lt := 6) (by decide) (by decide) hm hm0 h5 h6 hS hw (fun c hc => ?_) rfl ?_ ?_⟩
  · rw [up2_row _ _ _ _ h25, up2_row _ _ _ _ h25, cpA_ne (by omega)]
  · exact cpJ_ne (by omega)
  · rw [up2_row _ _ _ _ hc, up2_row _ _ _ _ hc]
  · rw [up2_ne2 _ _ _ _ (by decide), up2_same]; rfl
  · rw [up2_same]; omega
theorem sp_back (X : AX) (I J : Nat → Nat → Int) (cc ss : Nat) {hs : Nat → F1} {m : Nat} (h : Hist I J hs m) (hm0 : 0 < m) (hS : WD I 1) (hw : WF (hs (m - 1))) : Ev X k_X1_bringBack (0, [some (vr 13), some (vr 1), none, none], []) (MS I J cc ss) (PV cc ss none (fun I' J' => (∀ c, c = 0 ∨ 12 < c → c ≠ 13 → I' c = I c) ∧ (∀ c, c = 0 ∨ 12 < c → J' c = J c) ∧ Hist I' J' hs (m - 1) ∧ SetR I' J' 1 (hs (m - 1)))) := by
  obtain ⟨nx, h1, h2, h3, h4, h5, h6⟩ := h
  rcases (show nx = 0 ∨ nx = 1 ∨ nx = 2 ∨ nx = 3 ∨ nx = 4 ∨ nx = 5 ∨ nx = 6 ∨ nx = 7 by omega) with e | e | e | e | e | e | e | e <;> subst e
  · exact sp_back_0 X I J cc ss h2 h3 h4 hm0 h5 h6 hS hw
  · exact sp_back_1 X I J cc ss h2 h3 h4 hm0 h5 h6 hS hw
  · exact sp_back_2 X I J cc ss h2 h3 h4 hm0 h5 h6 hS hw
  · exact sp_back_3 X I J cc ss h2 h3 h4 hm0 h5 h6 hS hw
  · exact sp_back_4 X I J cc ss h2 h3 h4 hm0 h5 h6 hS hw
  · exact sp_back_5 X I J cc ss h2 h3 h4 hm0 h5 h6 hS hw
  · exact sp_back_6 X I J cc ss h2 h3 h4 hm0 h5 h6 hS hw
  · exact sp_back_7 X I J cc ss h2 h3 h4 hm0 h5 h6 hS hw
