/-! THE CONSTRUCTORS, by the kernel (printed by gen/g98p.py) -/
/-- the memory behind both constructors and the law's own long[1] -/
noncomputable def boot : Option (AS × AS) := match runZ 20000 k_X8_init (0, [some (vr 0)], []) (mk S0 (0, 8) 8) with
  | some (.inl none, SB) => match runZ 20000 k_X9_init (0, [some (vr 135)], []) (mk SB (0, 9) 23) with
    | some (.inl none, SC) => some (SB, SC)
    | _ => none
  | _ => none
def bootI : List (Nat × Nat × Int) := [(2, 2, 0), (5, 0, 6), (5, 4, 0), (9, 0, 3), (9, 4, 0), (118, 0, 6), (122, 0, 3), (13, 1, 0), (13, 2, 0), (112, 1, 0), (135, 6, 0), (135, 3, 0), (135, 22, 0), (130, 1, 0), (0, 7, -1), (135, 13, -1), (19, 0, 6), (31, 0, 6), (43, 0, 6), (55, 0, 6), (67, 0, 6), (79, 0, 6), (91, 0, 6), (103, 0, 6), (23, 0, 3), (35, 0, 3), (47, 0, 3), (59, 0, 3), (71, 0, 3), (83, 0, 3), (95, 0, 3), (107, 0, 3)]
noncomputable def bootC (p : AS × AS) : Bool := decide ((lay p.1).length = 135) && (let S := mk p.2 (2, 1) 1
  decide (lay S = LAY0) && decide (S.2.2 = (146, 16172)) && bootI.all (fun q => decide (gi S q.1 q.2.1 = q.2.2)) && decide (gl S 136 0 = 0) && decide (gl S 136 11 = 0) && decide (gl S 136 308 = 0) && (List.range 32).all (fun r => decide (in32 (gi S 131 r))) && (List.range 146).all (fun a => (List.range 23).all (fun k => decide (gr S a k = R0 a k))))
set_option maxRecDepth 100000 in
theorem boot_ok : (match boot with
  | some p => bootC p
  | none => false) = true := by decide +kernel
