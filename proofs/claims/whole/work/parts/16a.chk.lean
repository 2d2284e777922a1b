/-! WHAT THE KERNEL CHECKS of the code tables: the bytes are those of the instructions. -/
def u1e (c : ByteArray) (p v : Nat) : Prop := ∃ h : p < c.size, c[p].toNat = v
theorem u1_at {c : ByteArray} {p v : Nat} (h : u1e c p v) : (Reader.u1 : Decoder Nat) c p = .ok (v, p + 1) := by
  obtain ⟨h1, h2⟩ := h
  unfold Reader.u1
  show (if h : p < c.size then ((do set (p + 1); Pure.pure c[p].toNat) : Decoder Nat) else (throw (HasTruncated.truncated p) : Decoder Nat)) c p = _
  rw [dif_pos h1]
  show Except.ok (c[p].toNat, p + 1) = _
  rw [h2]
theorem u2_at {c : ByteArray} {p v w : Nat} (h : u1e c p v) (h' : u1e c (p + 1) w) : (Reader.u2 : Decoder Nat) c p = .ok (v * 256 + w, p + 2) := by
  unfold Reader.u2
  show Except.bind ((Reader.u1 : Decoder Nat) c p) (fun q => Except.bind ((Reader.u1 : Decoder Nat) c q.2) (fun r => .ok (q.1 * 256 + r.1, r.2))) = _
  rw [u1_at h]
  show Except.bind ((Reader.u1 : Decoder Nat) c (p + 1)) (fun r => .ok (v * 256 + r.1, r.2)) = _
  rw [u1_at h']
  rfl
noncomputable def insK (pc : Nat) : {f : Nat → Decoder Instr // Decoder.instr pc = (Bind.bind (Reader.u1 : Decoder Nat) f)} := ⟨_, rfl⟩
theorem dK {c : ByteArray} {pc v n : Nat} {I : Instr} (h : u1e c pc v) (h2 : (insK pc).1 v c (pc + 1) = .ok (I, pc + n)) : decode c pc = .ok (I, n) := by
  unfold decode
  rw [(insK pc).2]
  show Except.bind (Except.bind ((Reader.u1 : Decoder Nat) c pc) (fun q => (insK pc).1 q.1 c q.2)) (fun q => Except.ok (q.1, q.2 - pc)) = _
  rw [u1_at h]
  show Except.bind ((insK pc).1 v c (pc + 1)) (fun q => Except.ok (q.1, q.2 - pc)) = _
  rw [h2]
  show Except.ok (I, pc + n - pc) = _
  rw [Nat.add_sub_cancel_left]
def at_ (c : ByteArray) (pc : Nat) : List Nat → Prop
  | [] => True
  | v :: r => u1e c pc v ∧ at_ c (pc + 1) r
theorem d0 {c : ByteArray} {pc v : Nat} {I : Instr} (hk : (insK pc).1 v = Pure.pure I) (h : at_ c pc [v]) : decode c pc = .ok (I, 1) := dK h.1 (by rw [hk]; rfl)
theorem d1 {c : ByteArray} {pc v a : Nat} {K : Nat → Instr} (hk : (insK pc).1 v = Bind.bind (Reader.u1 : Decoder Nat) (fun i => Pure.pure (K i))) (h : at_ c pc [v, a]) : decode c pc = .ok (K a, 2) := dK h.1 (by
  rw [hk]
  show Except.bind ((Reader.u1 : Decoder Nat) c (pc + 1)) (fun q => Except.ok (K q.1, q.2)) = _
  rw [u1_at h.2.1]; rfl)
theorem d2 {c : ByteArray} {pc v a b : Nat} {K : Nat → Instr} (hk : (insK pc).1 v = Bind.bind (Reader.u2 : Decoder Nat) (fun i => Pure.pure (K i))) (h : at_ c pc [v, a, b]) : decode c pc = .ok (K (a * 256 + b), 3) := dK h.1 (by
  rw [hk]
  show Except.bind ((Reader.u2 : Decoder Nat) c (pc + 1)) (fun q => Except.ok (K q.1, q.2)) = _
  rw [u2_at h.2.1 h.2.2.1]; rfl)
theorem d1s {c : ByteArray} {pc v a : Nat} {K : Int → Instr} (hk : (insK pc).1 v = Bind.bind (Reader.s1 : Decoder Int) (fun i => Pure.pure (K i))) (h : at_ c pc [v, a]) : decode c pc = .ok (K (Reader.signed 8 a), 2) := dK h.1 (by
  rw [hk]
  show Except.bind (Except.bind ((Reader.u1 : Decoder Nat) c (pc + 1)) (fun q => Except.ok (Reader.signed 8 q.1, q.2))) (fun q => Except.ok (K q.1, q.2)) = _
  rw [u1_at h.2.1]; rfl)
theorem d2s {c : ByteArray} {pc v a b : Nat} {K : Int → Instr} (hk : (insK pc).1 v = Bind.bind (Reader.s2 : Decoder Int) (fun i => Pure.pure (K i))) (h : at_ c pc [v, a, b]) : decode c pc = .ok (K (Reader.signed 16 (a * 256 + b)), 3) := dK h.1 (by
  rw [hk]
  show Except.bind (Except.bind ((Reader.u2 : Decoder Nat) c (pc + 1)) (fun q => Except.ok (Reader.signed 16 q.1, q.2))) (fun q => Except.ok (K q.1, q.2)) = _
  rw [u2_at h.2.1 h.2.2.1]; rfl)
theorem d11 {c : ByteArray} {pc v a b : Nat} {K : Nat → Int → Instr} (hk : (insK pc).1 v = Bind.bind (Reader.u1 : Decoder Nat) (fun i => Bind.bind (Reader.s1 : Decoder Int) (fun j => Pure.pure (K i j)))) (h : at_ c pc [v, a, b]) : decode c pc = .ok (K a (Reader.signed 8 b), 3) := dK h.1 (by
  rw [hk]
  show Except.bind ((Reader.u1 : Decoder Nat) c (pc + 1)) (fun q => Except.bind (Except.bind ((Reader.u1 : Decoder Nat) c q.2) (fun q => Except.ok (Reader.signed 8 q.1, q.2))) (fun r => Except.ok (K q.1 r.1, r.2))) = _
  rw [u1_at h.2.1]
  show Except.bind (Except.bind ((Reader.u1 : Decoder Nat) c (pc + 1 + 1)) (fun q => Except.ok (Reader.signed 8 q.1, q.2))) (fun r => Except.ok (K a r.1, r.2)) = _
  rw [u1_at h.2.2.1]; rfl)
theorem sg8 {z : Int} (h0 : -128 ≤ z) (h1 : z < 128) : Reader.signed 8 (if z < 0 then (z + 256).toNat else z.toNat) = z := by
  unfold Reader.signed
  split <;> split <;> omega
theorem sg16 {z : Int} (h0 : -32768 ≤ z) (h1 : z < 32768) : Reader.signed 16 ((if z < 0 then (z + 65536).toNat else z.toNat) / 256 * 256 + (if z < 0 then (z + 65536).toNat else z.toNat) % 256) = z := by
  rw [Nat.mul_comm, Nat.div_add_mod]
  unfold Reader.signed
  split <;> split <;> omega
def e16 (v : Nat) (z : Int) : Option (List Nat) := if -32768 ≤ z ∧ z < 32768 then some [v, (if z < 0 then (z + 65536).toNat else z.toNat) / 256, (if z < 0 then (z + 65536).toNat else z.toNat) % 256] else none
def e8 (vs : List Nat) (z : Int) : Option (List Nat) := if -128 ≤ z ∧ z < 128 then some (vs ++ [if z < 0 then (z + 256).toNat else z.toNat]) else none
def eu (v i : Nat) : Option (List Nat) := some [v, i / 256, i % 256]
def en (v n : Nat) : Option (List Nat) := if n < 4 then some [v + n] else none
def enc (I : Instr) : Option (List Nat) := match I with
  | .aconst_null => some [1]
  | .iaload => some [46]
  | .laload => some [47]
  | .aaload => some [50]
  | .baload => some [51]
  | .iastore => some [79]
  | .lastore => some [80]
  | .aastore => some [83]
  | .bastore => some [84]
  | .pop => some [87]
  | .dup => some [89]
  | .dup_x1 => some [90]
  | .dup2 => some [92]
  | .iadd => some [96]
  | .ladd => some [97]
  | .isub => some [100]
  | .lsub => some [101]
  | .imul => some [104]
  | .lmul => some [105]
  | .idiv => some [108]
  | .irem => some [112]
  | .ineg => some [116]
  | .ishl => some [120]
  | .lshl => some [121]
  | .ishr => some [122]
  | .iushr => some [124]
  | .iand => some [126]
  | .land => some [127]
  | .ior => some [128]
  | .lor => some [129]
  | .ixor => some [130]
  | .i2l => some [133]
  | .l2i => some [136]
  | .i2c => some [146]
  | .lcmp => some [148]
  | .ireturn => some [172]
  | .lreturn => some [173]
  | .areturn => some [176]
  | .return_ => some [177]
  | .arraylength => some [190]
  | .athrow => some [191]
  | .iload i => some [21, i]
  | .lload i => some [22, i]
  | .aload i => some [25, i]
  | .istore i => some [54, i]
  | .lstore i => some [55, i]
  | .astore i => some [58, i]
  | .ldc i => some [18, i]
  | .iload_n n => en 26 n
  | .lload_n n => en 30 n
  | .aload_n n => en 42 n
  | .istore_n n => en 59 n
  | .lstore_n n => en 63 n
  | .astore_n n => en 75 n
  | .ldc_w i => eu 19 i
  | .ldc2_w i => eu 20 i
  | .getstatic i => eu 178 i
  | .getfield i => eu 180 i
  | .putfield i => eu 181 i
  | .invokevirtual i => eu 182 i
  | .invokespecial i => eu 183 i
  | .invokestatic i => eu 184 i
  | .new i => eu 187 i
  | .anewarray i => eu 189 i
  | .sipush z => e16 17 z
  | .goto z => e16 167 z
  | .ifnull z => e16 198 z
  | .ifnonnull z => e16 199 z
  | .bipush z => e8 [16] z
  | .iinc i z => e8 [132, i] z
  | .ifCond .eq z => e16 153 z
  | .ifCond .ne z => e16 154 z
  | .ifCond .lt z => e16 155 z
  | .ifCond .ge z => e16 156 z
  | .ifCond .gt z => e16 157 z
  | .ifCond .le z => e16 158 z
  | .if_icmp .eq z => e16 159 z
  | .if_icmp .ne z => e16 160 z
  | .if_icmp .lt z => e16 161 z
  | .if_icmp .ge z => e16 162 z
  | .if_icmp .gt z => e16 163 z
  | .if_icmp .le z => e16 164 z
  | .if_acmp .eq z => e16 165 z
  | .if_acmp .ne z => e16 166 z
  | .iconst z => if -1 ≤ z ∧ z ≤ 5 then some [(z + 3).toNat] else none
  | .lconst z => if z = 0 then some [9] else if z = 1 then some [10] else none
  | .newarray .int => some [188, 10]
  | .newarray .long => some [188, 11]
  | .newarray .boolean => some [188, 4]
  | .newarray .byte => some [188, 8]
  | _ => none
theorem en_of {v n : Nat} {bs : List Nat} (h : en v n = some bs) : n < 4 ∧ bs = [v + n] := by
  unfold en at h
  split at h
  · next q => exact ⟨q, (Option.some.inj h).symm⟩
  · cases h
theorem d16 {c : ByteArray} {pc v : Nat} {z : Int} {bs : List Nat} {K : Int → Instr} (hk : (insK pc).1 v = Bind.bind (Reader.s2 : Decoder Int) (fun i => Pure.pure (K i))) (h : e16 v z = some bs) (ha : at_ c pc bs) : decode c pc = .ok (K z, bs.length) := by
  unfold e16 at h
  split at h
  · next q =>
    cases h
    rw [d2s hk ha, sg16 q.1 q.2]
    rfl
  · cases h
theorem du {c : ByteArray} {pc v i : Nat} {bs : List Nat} {K : Nat → Instr} (hk : (insK pc).1 v = Bind.bind (Reader.u2 : Decoder Nat) (fun i => Pure.pure (K i))) (h : eu v i = some bs) (ha : at_ c pc bs) : decode c pc = .ok (K i, bs.length) := by
  cases h
  rw [d2 hk ha, Nat.mul_comm, Nat.div_add_mod]
  rfl
set_option maxRecDepth 8192 in
set_option maxHeartbeats 4000000 in
theorem dec_enc {c : ByteArray} {pc : Nat} : ∀ (I : Instr) {bs : List Nat}, enc I = some bs → at_ c pc bs → decode c pc = .ok (I, bs.length)
  | .aconst_null, _, h, ha => by cases h; exact d0 rfl ha
  | .iaload, _, h, ha => by cases h; exact d0 rfl ha
  | .laload, _, h, ha => by cases h; exact d0 rfl ha
  | .aaload, _, h, ha => by cases h; exact d0 rfl ha
  | .baload, _, h, ha => by cases h; exact d0 rfl ha
  | .iastore, _, h, ha => by cases h; exact d0 rfl ha
  | .lastore, _, h, ha => by cases h; exact d0 rfl ha
  | .aastore, _, h, ha => by cases h; exact d0 rfl ha
  | .bastore, _, h, ha => by cases h; exact d0 rfl ha
  | .pop, _, h, ha => by cases h; exact d0 rfl ha
  | .dup, _, h, ha => by cases h; exact d0 rfl ha
  | .dup_x1, _, h, ha => by cases h; exact d0 rfl ha
  | .dup2, _, h, ha => by cases h; exact d0 rfl ha
  | .iadd, _, h, ha => by cases h; exact d0 rfl ha
  | .ladd, _, h, ha => by cases h; exact d0 rfl ha
  | .isub, _, h, ha => by cases h; exact d0 rfl ha
  | .lsub, _, h, ha => by cases h; exact d0 rfl ha
  | .imul, _, h, ha => by cases h; exact d0 rfl ha
  | .lmul, _, h, ha => by cases h; exact d0 rfl ha
  | .idiv, _, h, ha => by cases h; exact d0 rfl ha
  | .irem, _, h, ha => by cases h; exact d0 rfl ha
  | .ineg, _, h, ha => by cases h; exact d0 rfl ha
  | .ishl, _, h, ha => by cases h; exact d0 rfl ha
  | .lshl, _, h, ha => by cases h; exact d0 rfl ha
  | .ishr, _, h, ha => by cases h; exact d0 rfl ha
  | .iushr, _, h, ha => by cases h; exact d0 rfl ha
  | .iand, _, h, ha => by cases h; exact d0 rfl ha
  | .land, _, h, ha => by cases h; exact d0 rfl ha
  | .ior, _, h, ha => by cases h; exact d0 rfl ha
  | .lor, _, h, ha => by cases h; exact d0 rfl ha
  | .ixor, _, h, ha => by cases h; exact d0 rfl ha
  | .i2l, _, h, ha => by cases h; exact d0 rfl ha
  | .l2i, _, h, ha => by cases h; exact d0 rfl ha
  | .i2c, _, h, ha => by cases h; exact d0 rfl ha
  | .lcmp, _, h, ha => by cases h; exact d0 rfl ha
  | .ireturn, _, h, ha => by cases h; exact d0 rfl ha
  | .lreturn, _, h, ha => by cases h; exact d0 rfl ha
  | .areturn, _, h, ha => by cases h; exact d0 rfl ha
  | .return_, _, h, ha => by cases h; exact d0 rfl ha
  | .arraylength, _, h, ha => by cases h; exact d0 rfl ha
  | .athrow, _, h, ha => by cases h; exact d0 rfl ha
  | .iload i, _, h, ha => by cases h; exact d1 (K := .iload) rfl ha
  | .lload i, _, h, ha => by cases h; exact d1 (K := .lload) rfl ha
  | .aload i, _, h, ha => by cases h; exact d1 (K := .aload) rfl ha
  | .istore i, _, h, ha => by cases h; exact d1 (K := .istore) rfl ha
  | .lstore i, _, h, ha => by cases h; exact d1 (K := .lstore) rfl ha
  | .astore i, _, h, ha => by cases h; exact d1 (K := .astore) rfl ha
  | .ldc i, _, h, ha => by cases h; exact d1 (K := .ldc) rfl ha
  | .iload_n n, _, h, ha => by obtain ⟨hn, rfl⟩ := en_of h; match n, hn, ha with | 0, _, ha => exact d0 rfl ha | 1, _, ha => exact d0 rfl ha | 2, _, ha => exact d0 rfl ha | 3, _, ha => exact d0 rfl ha
  | .lload_n n, _, h, ha => by obtain ⟨hn, rfl⟩ := en_of h; match n, hn, ha with | 0, _, ha => exact d0 rfl ha | 1, _, ha => exact d0 rfl ha | 2, _, ha => exact d0 rfl ha | 3, _, ha => exact d0 rfl ha
  | .aload_n n, _, h, ha => by obtain ⟨hn, rfl⟩ := en_of h; match n, hn, ha with | 0, _, ha => exact d0 rfl ha | 1, _, ha => exact d0 rfl ha | 2, _, ha => exact d0 rfl ha | 3, _, ha => exact d0 rfl ha
  | .istore_n n, _, h, ha => by obtain ⟨hn, rfl⟩ := en_of h; match n, hn, ha with | 0, _, ha => exact d0 rfl ha | 1, _, ha => exact d0 rfl ha | 2, _, ha => exact d0 rfl ha | 3, _, ha => exact d0 rfl ha
  | .lstore_n n, _, h, ha => by obtain ⟨hn, rfl⟩ := en_of h; match n, hn, ha with | 0, _, ha => exact d0 rfl ha | 1, _, ha => exact d0 rfl ha | 2, _, ha => exact d0 rfl ha | 3, _, ha => exact d0 rfl ha
  | .astore_n n, _, h, ha => by obtain ⟨hn, rfl⟩ := en_of h; match n, hn, ha with | 0, _, ha => exact d0 rfl ha | 1, _, ha => exact d0 rfl ha | 2, _, ha => exact d0 rfl ha | 3, _, ha => exact d0 rfl ha
  | .ldc_w i, _, h, ha => du (K := .ldc_w) rfl h ha
  | .ldc2_w i, _, h, ha => du (K := .ldc2_w) rfl h ha
  | .getstatic i, _, h, ha => du (K := .getstatic) rfl h ha
  | .getfield i, _, h, ha => du (K := .getfield) rfl h ha
  | .putfield i, _, h, ha => du (K := .putfield) rfl h ha
  | .invokevirtual i, _, h, ha => du (K := .invokevirtual) rfl h ha
  | .invokespecial i, _, h, ha => du (K := .invokespecial) rfl h ha
  | .invokestatic i, _, h, ha => du (K := .invokestatic) rfl h ha
  | .new i, _, h, ha => du (K := .new) rfl h ha
  | .anewarray i, _, h, ha => du (K := .anewarray) rfl h ha
  | .sipush i, _, h, ha => d16 (K := .sipush) rfl h ha
  | .goto i, _, h, ha => d16 (K := .goto) rfl h ha
  | .ifnull i, _, h, ha => d16 (K := .ifnull) rfl h ha
  | .ifnonnull i, _, h, ha => d16 (K := .ifnonnull) rfl h ha
  | .bipush z, _, h, ha => by
    simp only [enc, e8] at h
    split at h
    · next q => cases h; rw [d1s (K := .bipush) rfl ha, sg8 q.1 q.2]; rfl
    · cases h
  | .iinc i z, _, h, ha => by
    simp only [enc, e8] at h
    split at h
    · next q => cases h; rw [d11 (K := .iinc) rfl ha, sg8 q.1 q.2]; rfl
    · cases h
  | .ifCond .eq i, _, h, ha => d16 (K := .ifCond .eq) rfl h ha
  | .ifCond .ne i, _, h, ha => d16 (K := .ifCond .ne) rfl h ha
  | .ifCond .lt i, _, h, ha => d16 (K := .ifCond .lt) rfl h ha
  | .ifCond .ge i, _, h, ha => d16 (K := .ifCond .ge) rfl h ha
  | .ifCond .gt i, _, h, ha => d16 (K := .ifCond .gt) rfl h ha
  | .ifCond .le i, _, h, ha => d16 (K := .ifCond .le) rfl h ha
  | .if_icmp .eq i, _, h, ha => d16 (K := .if_icmp .eq) rfl h ha
  | .if_icmp .ne i, _, h, ha => d16 (K := .if_icmp .ne) rfl h ha
  | .if_icmp .lt i, _, h, ha => d16 (K := .if_icmp .lt) rfl h ha
  | .if_icmp .ge i, _, h, ha => d16 (K := .if_icmp .ge) rfl h ha
  | .if_icmp .gt i, _, h, ha => d16 (K := .if_icmp .gt) rfl h ha
  | .if_icmp .le i, _, h, ha => d16 (K := .if_icmp .le) rfl h ha
  | .if_acmp .eq i, _, h, ha => d16 (K := .if_acmp .eq) rfl h ha
  | .if_acmp .ne i, _, h, ha => d16 (K := .if_acmp .ne) rfl h ha
  | .iconst z, bs, h, ha => by
    simp only [enc] at h
    split at h
    · next q =>
      cases h
      have : z = -1 ∨ z = 0 ∨ z = 1 ∨ z = 2 ∨ z = 3 ∨ z = 4 ∨ z = 5 := by omega
      rcases this with rfl | rfl | rfl | rfl | rfl | rfl | rfl <;> exact d0 rfl ha
    · cases h
  | .lconst z, bs, h, ha => by
    simp only [enc] at h
    split at h
    · next q => subst q; cases h; exact d0 rfl ha
    · split at h
      · next q => subst q; cases h; exact d0 rfl ha
      · cases h
  | .newarray .int, _, h, ha => by cases h; exact dK ha.1 (by show Except.bind ((Reader.u1 : Decoder Nat) c (pc + 1)) (fun q => _) = _; rw [u1_at ha.2.1]; rfl)
  | .newarray .long, _, h, ha => by cases h; exact dK ha.1 (by show Except.bind ((Reader.u1 : Decoder Nat) c (pc + 1)) (fun q => _) = _; rw [u1_at ha.2.1]; rfl)
  | .newarray .boolean, _, h, ha => by cases h; exact dK ha.1 (by show Except.bind ((Reader.u1 : Decoder Nat) c (pc + 1)) (fun q => _) = _; rw [u1_at ha.2.1]; rfl)
  | .newarray .byte, _, h, ha => by cases h; exact dK ha.1 (by show Except.bind ((Reader.u1 : Decoder Nat) c (pc + 1)) (fun q => _) = _; rw [u1_at ha.2.1]; rfl)
def preB : List Nat → List Nat → Bool
  | [], _ => true
  | a :: r, b :: t => Nat.beq a b && preB r t
  | _, _ => false
noncomputable def bsOf (k : Nat) : List Nat := (mC k).data.toList.map (fun b => b.toNat)
noncomputable def wlk (k : Nat) : List Nat → Nat → List (Nat × AI) → Bool
  | _, _, [] => true
  | l, pc, e :: r => Nat.beq pc e.1 && (match enc e.2.1 with
    | some bs => Nat.beq e.2.2.1 bs.length && preB bs l
    | none => (match decode (mC k) e.1 with
      | .ok (I, n) => decide (I = e.2.1 ∧ n = e.2.2.1)
      | _ => false)) && wlk k (l.drop e.2.2.1) (pc + e.2.2.1) r
theorem u1e_of {k p v : Nat} (h : (bsOf k)[p]? = some v) : u1e (mC k) p v := by
  unfold bsOf at h
  rw [List.getElem?_map] at h
  obtain ⟨b, h1, rfl⟩ := Option.map_eq_some_iff.mp h
  rw [Array.getElem?_toList] at h1
  obtain ⟨h2, h3⟩ := Array.getElem?_eq_some_iff.mp h1
  exact ⟨h2, congrArg UInt8.toNat h3⟩
theorem at_of {k : Nat} : ∀ (bs : List Nat) (pc : Nat), preB bs ((bsOf k).drop pc) = true → at_ (mC k) pc bs
  | [], _, _ => trivial
  | a :: r, pc, h => by
    cases hd : (bsOf k).drop pc with
    | nil => rw [hd] at h; cases h
    | cons b t =>
      rw [hd] at h
      simp only [preB, Bool.and_eq_true] at h
      obtain ⟨h1, h2⟩ := h
      have e : a = b := Nat.eq_of_beq_eq_true h1
      subst e
      refine ⟨u1e_of ?_, at_of r (pc + 1) ?_⟩
      · have := congrArg (fun l => l[0]?) hd
        simpa [List.getElem?_drop] using this
      · rw [← List.drop_drop, hd]; exact h2
theorem wlk_ok (k : Nat) : ∀ (es : List (Nat × AI)) (l : List Nat) (pc : Nat), wlk k l pc es = true → l = (bsOf k).drop pc → ∀ e ∈ es, decode (mC k) e.1 = .ok (e.2.1, e.2.2.1)
  | [], _, _, _, _, e, he => absurd he List.not_mem_nil
  | e0 :: r, l, pc, h, hl, e, he => by
    simp only [wlk, Bool.and_eq_true] at h
    obtain ⟨⟨h1, h2⟩, h3⟩ := h
    have e1 : pc = e0.1 := Nat.eq_of_beq_eq_true h1
    rcases List.mem_cons.mp he with rfl | he
    · split at h2
      · next bs hbs =>
        rw [Bool.and_eq_true] at h2
        have e2 := Nat.eq_of_beq_eq_true h2.1
        rw [e2]
        refine dec_enc _ hbs (at_of _ _ ?_)
        rw [← e1, ← hl]; exact h2.2
      · split at h2
        · next I n hd =>
          obtain ⟨rfl, rfl⟩ := of_decide_eq_true h2
          exact hd
        · cases h2
    · exact wlk_ok k r _ _ h3 (by rw [hl, List.drop_drop]) e he
def gS (I : Instr) : Bool := match I with | .tableswitch _ _ _ _ | .lookupswitch _ _ => true | _ => false
noncomputable def chkE (k : Nat) (e : Nat × AI) : Bool :=
  (gS e.2.1 || Nat.beq e.2.2.1 (il e.2.1)) && lkb k e.2.1 e.2.2.2 &&
  (match e.2.1 with
   | .new i => if e.2.2.2.1 = 2 then TL.any (fun q => decide (q = (k, e.1, i, e.2.2.2.2.1))) else true
   | _ => true)
noncomputable def chkM (k : Nat) : Bool := wlk k (bsOf k) 0 (CT.getD k []) && (CT.getD k []).all (chkE k)
set_option maxRecDepth 1000000 in
theorem chk_r0 : ((List.range 14).all fun k => chkM (k + 0)) = true := by decide +kernel
set_option maxRecDepth 1000000 in
theorem chk_r1 : ((List.range 13).all fun k => chkM (k + 14)) = true := by decide +kernel
set_option maxRecDepth 1000000 in
theorem chk_r2 : ((List.range 17).all fun k => chkM (k + 27)) = true := by decide +kernel
set_option maxRecDepth 1000000 in
theorem chk_r3 : ((List.range 16).all fun k => chkM (k + 44)) = true := by decide +kernel
set_option maxRecDepth 1000000 in
theorem chk_r4 : ((List.range 13).all fun k => chkM (k + 60)) = true := by decide +kernel
set_option maxRecDepth 1000000 in
theorem chk_r5 : ((List.range 7).all fun k => chkM (k + 73)) = true := by decide +kernel
set_option maxRecDepth 1000000 in
theorem chk_r6 : ((List.range 15).all fun k => chkM (k + 80)) = true := by decide +kernel
set_option maxRecDepth 1000000 in
theorem chk_r7 : ((List.range 14).all fun k => chkM (k + 95)) = true := by decide +kernel
set_option maxRecDepth 1000000 in
theorem chk_r8 : ((List.range 12).all fun k => chkM (k + 109)) = true := by decide +kernel
set_option maxRecDepth 1000000 in
theorem chk_r9 : ((List.range 11).all fun k => chkM (k + 121)) = true := by decide +kernel
set_option maxRecDepth 1000000 in
theorem chk_r10 : ((List.range 11).all fun k => chkM (k + 132)) = true := by decide +kernel
set_option maxRecDepth 1000000 in
theorem chk_r11 : ((List.range 7).all fun k => chkM (k + 143)) = true := by decide +kernel
set_option maxRecDepth 1000000 in
theorem chk_r12 : ((List.range 8).all fun k => chkM (k + 150)) = true := by decide +kernel
set_option maxRecDepth 1000000 in
theorem chk_r13 : ((List.range 14).all fun k => chkM (k + 158)) = true := by decide +kernel
set_option maxRecDepth 1000000 in
theorem chk_r14 : ((List.range 22).all fun k => chkM (k + 172)) = true := by decide +kernel
set_option maxRecDepth 1000000 in
theorem chk_r15 : ((List.range 21).all fun k => chkM (k + 194)) = true := by decide +kernel
set_option maxRecDepth 1000000 in
theorem chk_r16 : ((List.range 6).all fun k => chkM (k + 215)) = true := by decide +kernel
set_option maxRecDepth 1000000 in
theorem chk_r17 : ((List.range 20).all fun k => chkM (k + 221)) = true := by decide +kernel
set_option maxRecDepth 1000000 in
theorem chk_r18 : ((List.range 12).all fun k => chkM (k + 241)) = true := by decide +kernel
set_option maxRecDepth 1000000 in
theorem chk_r19 : ((List.range 26).all fun k => chkM (k + 253)) = true := by decide +kernel
set_option maxRecDepth 1000000 in
theorem chk_r20 : ((List.range 3).all fun k => chkM (k + 279)) = true := by decide +kernel
set_option maxRecDepth 1000000 in
theorem chk_r21 : ((List.range 12).all fun k => chkM (k + 283)) = true := by decide +kernel
set_option maxRecDepth 1000000 in
theorem chk_w : wlk 282 (bsOf 282) 0 (CT.getD 282 []) = true := by decide +kernel
set_option maxRecDepth 1000000 in
theorem chk_l0 : (((CT.getD 282 []).drop 0).take 340).all (chkE 282) = true := by decide +kernel
set_option maxRecDepth 1000000 in
theorem chk_l1 : (((CT.getD 282 []).drop 340).take 340).all (chkE 282) = true := by decide +kernel
set_option maxRecDepth 1000000 in
theorem chk_l2 : (((CT.getD 282 []).drop 680).take 340).all (chkE 282) = true := by decide +kernel
set_option maxRecDepth 1000000 in
theorem chk_l3 : (((CT.getD 282 []).drop 1020).take 340).all (chkE 282) = true := by decide +kernel
set_option maxRecDepth 1000000 in
theorem chk_l4 : (((CT.getD 282 []).drop 1360).take 340).all (chkE 282) = true := by decide +kernel
theorem all_cut {α : Type} {f : α → Bool} {l : List α} {a : Nat} (n b : Nat) (hb : a + n = b) (h1 : ((l.drop a).take n).all f = true) (h2 : (l.drop b).all f = true) : (l.drop a).all f = true := by
  subst hb
  rw [← List.take_append_drop n (l.drop a), List.all_append, h1, List.drop_drop, h2]; rfl
set_option maxRecDepth 1000000 in
theorem chk_end : (((CT.getD 282 []).drop 1700).all (chkE 282)) = true := by decide +kernel
theorem chk_law : chkM 282 = true := by
  unfold chkM
  rw [chk_w, Bool.true_and]
  exact all_cut (a := 0) 340 340 rfl chk_l0 (all_cut 340 680 rfl chk_l1 (all_cut 340 1020 rfl chk_l2 (all_cut 340 1360 rfl chk_l3 (all_cut 340 1700 rfl chk_l4 chk_end))))
theorem chk_at {n a : Nat} (h : ((List.range n).all fun k => chkM (k + a)) = true) {k : Nat} (h1 : a ≤ k) (h2 : k < a + n) : chkM k = true := by
  have := List.all_eq_true.mp h (k - a) (List.mem_range.mpr (by omega))
  rwa [Nat.sub_add_cancel h1] at this
theorem chk_all (k : Nat) (hk : k < kN) : chkM k = true := by
  have hk : k < 295 := hk
  by_cases g0 : 0 ≤ k ∧ k < 14
  · exact chk_at chk_r0 g0.1 g0.2
  by_cases g1 : 14 ≤ k ∧ k < 27
  · exact chk_at chk_r1 g1.1 g1.2
  by_cases g2 : 27 ≤ k ∧ k < 44
  · exact chk_at chk_r2 g2.1 g2.2
  by_cases g3 : 44 ≤ k ∧ k < 60
  · exact chk_at chk_r3 g3.1 g3.2
  by_cases g4 : 60 ≤ k ∧ k < 73
  · exact chk_at chk_r4 g4.1 g4.2
  by_cases g5 : 73 ≤ k ∧ k < 80
  · exact chk_at chk_r5 g5.1 g5.2
  by_cases g6 : 80 ≤ k ∧ k < 95
  · exact chk_at chk_r6 g6.1 g6.2
  by_cases g7 : 95 ≤ k ∧ k < 109
  · exact chk_at chk_r7 g7.1 g7.2
  by_cases g8 : 109 ≤ k ∧ k < 121
  · exact chk_at chk_r8 g8.1 g8.2
  by_cases g9 : 121 ≤ k ∧ k < 132
  · exact chk_at chk_r9 g9.1 g9.2
  by_cases g10 : 132 ≤ k ∧ k < 143
  · exact chk_at chk_r10 g10.1 g10.2
  by_cases g11 : 143 ≤ k ∧ k < 150
  · exact chk_at chk_r11 g11.1 g11.2
  by_cases g12 : 150 ≤ k ∧ k < 158
  · exact chk_at chk_r12 g12.1 g12.2
  by_cases g13 : 158 ≤ k ∧ k < 172
  · exact chk_at chk_r13 g13.1 g13.2
  by_cases g14 : 172 ≤ k ∧ k < 194
  · exact chk_at chk_r14 g14.1 g14.2
  by_cases g15 : 194 ≤ k ∧ k < 215
  · exact chk_at chk_r15 g15.1 g15.2
  by_cases g16 : 215 ≤ k ∧ k < 221
  · exact chk_at chk_r16 g16.1 g16.2
  by_cases g17 : 221 ≤ k ∧ k < 241
  · exact chk_at chk_r17 g17.1 g17.2
  by_cases g18 : 241 ≤ k ∧ k < 253
  · exact chk_at chk_r18 g18.1 g18.2
  by_cases g19 : 253 ≤ k ∧ k < 279
  · exact chk_at chk_r19 g19.1 g19.2
  by_cases g20 : 279 ≤ k ∧ k < 282
  · exact chk_at chk_r20 g20.1 g20.2
  by_cases g21 : 283 ≤ k ∧ k < 295
  · exact chk_at chk_r21 g21.1 g21.2
  have : k = 282 := by omega
  subst this; exact chk_law
