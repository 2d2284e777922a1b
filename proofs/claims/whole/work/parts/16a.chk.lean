/-! WHAT THE KERNEL CHECKS of the code tables. -/
def gS (I : Instr) : Bool := match I with | .tableswitch _ _ _ _ | .lookupswitch _ _ => true | _ => false
noncomputable def chkE (k : Nat) (e : Nat × AI) : Bool :=
  (match decode (mC k) e.1 with
   | .ok (I, n) => decide (I = e.2.1 ∧ n = e.2.2.1)
   | _ => false) &&
  (gS e.2.1 || decide (e.2.2.1 = il e.2.1)) && lkb k e.2.1 e.2.2.2 &&
  (match e.2.1 with
   | .new i => if e.2.2.2.1 = 2 then TL.any (fun q => decide (q = (k, e.1, i, e.2.2.2.2.1))) else true
   | _ => true)
set_option maxRecDepth 1000000 in
theorem chk_r0 : ((List.range 10).all fun k => (CT.getD (k + 0) []).all (chkE (k + 0))) = true := by decide +kernel
set_option maxRecDepth 1000000 in
theorem chk_r1 : ((List.range 50).all fun k => (CT.getD (k + 10) []).all (chkE (k + 10))) = true := by decide +kernel
set_option maxRecDepth 1000000 in
theorem chk_r2 : ((List.range 50).all fun k => (CT.getD (k + 60) []).all (chkE (k + 60))) = true := by decide +kernel
set_option maxRecDepth 1000000 in
theorem chk_r3 : ((List.range 50).all fun k => (CT.getD (k + 110) []).all (chkE (k + 110))) = true := by decide +kernel
set_option maxRecDepth 1000000 in
theorem chk_r4 : ((List.range 50).all fun k => (CT.getD (k + 160) []).all (chkE (k + 160))) = true := by decide +kernel
set_option maxRecDepth 1000000 in
theorem chk_r5 : ((List.range 72).all fun k => (CT.getD (k + 210) []).all (chkE (k + 210))) = true := by decide +kernel
set_option maxRecDepth 1000000 in
theorem chk_r6 : ((List.range 12).all fun k => (CT.getD (k + 283) []).all (chkE (k + 283))) = true := by decide +kernel
theorem chk_law : (CT.getD 282 []).all (chkE 282) = true := sorry
theorem chk_at {n a : Nat} (h : ((List.range n).all fun k => (CT.getD (k + a) []).all (chkE (k + a))) = true) {k : Nat} (h1 : a ≤ k) (h2 : k < a + n) : (CT.getD k []).all (chkE k) = true := by
  have := List.all_eq_true.mp h (k - a) (List.mem_range.mpr (by omega))
  rwa [Nat.sub_add_cancel h1] at this
theorem chk_all (k : Nat) (hk : k < kN) : (CT.getD k []).all (chkE k) = true := by
  have hk : k < 295 := hk
  by_cases g0 : 0 ≤ k ∧ k < 10
  · exact chk_at chk_r0 g0.1 g0.2
  by_cases g1 : 10 ≤ k ∧ k < 60
  · exact chk_at chk_r1 g1.1 g1.2
  by_cases g2 : 60 ≤ k ∧ k < 110
  · exact chk_at chk_r2 g2.1 g2.2
  by_cases g3 : 110 ≤ k ∧ k < 160
  · exact chk_at chk_r3 g3.1 g3.2
  by_cases g4 : 160 ≤ k ∧ k < 210
  · exact chk_at chk_r4 g4.1 g4.2
  by_cases g5 : 210 ≤ k ∧ k < 282
  · exact chk_at chk_r5 g5.1 g5.2
  by_cases g6 : 283 ≤ k ∧ k < 295
  · exact chk_at chk_r6 g6.1 g6.2
  have : k = 282 := by omega
  subst this; exact chk_law
