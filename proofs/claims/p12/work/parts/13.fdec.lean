/-! ===== fd: a method's bytes read once, from the front ===== -/
/-- the byte at a place -/
def fd_at1 (cc : ByteArray) (p v : Nat) : Prop := ∃ h : p < cc.size, (cc[p]'h).toNat = v
theorem fd_u1_run {α : Type} {cc : ByteArray} {p v : Nat} (h : fd_at1 cc p v) (f : Nat → Jvm.ClassFile.Decoder α) : (bind (Jvm.ClassFile.Reader.u1 : Jvm.ClassFile.Decoder Nat) f : Jvm.ClassFile.Decoder α) cc p = f v cc (p + 1) := by
  obtain ⟨h1, h2⟩ := h
  have e : (Jvm.ClassFile.Reader.u1 : Jvm.ClassFile.Decoder Nat) cc p = .ok (v, p + 1) := by
    subst h2
    show (do if h : p < cc.size then do set (p + 1); Pure.pure cc[p].toNat else MonadExcept.throw (Jvm.ClassFile.HasTruncated.truncated p) : Jvm.ClassFile.Decoder Nat) cc p = _
    rw [dif_pos h1]
    rfl
  have e2 : (bind (Jvm.ClassFile.Reader.u1 : Jvm.ClassFile.Decoder Nat) f : Jvm.ClassFile.Decoder α) cc p = (match (Jvm.ClassFile.Reader.u1 : Jvm.ClassFile.Decoder Nat) cc p with | .error e => Except.error e | .ok (a, s) => f a cc s) := by
    show (do let (a, s) ← (Jvm.ClassFile.Reader.u1 : Jvm.ClassFile.Decoder Nat) cc p; f a cc s : Except Jvm.ClassFile.DecodeError (α × Nat)) = _
    cases (Jvm.ClassFile.Reader.u1 : Jvm.ClassFile.Decoder Nat) cc p <;> rfl
  rw [e2, e]
theorem fd_u2_run {α : Type} {cc : ByteArray} {p a b : Nat} (h : fd_at1 cc p a) (h2 : fd_at1 cc (p + 1) b) (f : Nat → Jvm.ClassFile.Decoder α) : (bind (Jvm.ClassFile.Reader.u2 : Jvm.ClassFile.Decoder Nat) f : Jvm.ClassFile.Decoder α) cc p = f (a * 256 + b) cc (p + 2) := by
  have e : (Jvm.ClassFile.Reader.u2 : Jvm.ClassFile.Decoder Nat) cc p = .ok (a * 256 + b, p + 2) := by
    show (bind (Jvm.ClassFile.Reader.u1 : Jvm.ClassFile.Decoder Nat) (fun hi => bind Jvm.ClassFile.Reader.u1 (fun lo => pure (hi * 256 + lo))) : Jvm.ClassFile.Decoder Nat) cc p = _
    rw [fd_u1_run h]
    show (bind (Jvm.ClassFile.Reader.u1 : Jvm.ClassFile.Decoder Nat) (fun lo => pure (a * 256 + lo)) : Jvm.ClassFile.Decoder Nat) cc (p + 1) = _
    rw [fd_u1_run h2]
    rfl
  have e2 : (bind (Jvm.ClassFile.Reader.u2 : Jvm.ClassFile.Decoder Nat) f : Jvm.ClassFile.Decoder α) cc p = (match (Jvm.ClassFile.Reader.u2 : Jvm.ClassFile.Decoder Nat) cc p with | .error e => Except.error e | .ok (a, s) => f a cc s) := by
    show (do let (a, s) ← (Jvm.ClassFile.Reader.u2 : Jvm.ClassFile.Decoder Nat) cc p; f a cc s : Except Jvm.ClassFile.DecodeError (α × Nat)) = _
    cases (Jvm.ClassFile.Reader.u2 : Jvm.ClassFile.Decoder Nat) cc p <;> rfl
  rw [e2, e]
theorem fd_s1_run {α : Type} {cc : ByteArray} {p a : Nat} (h : fd_at1 cc p a) (f : Int → Jvm.ClassFile.Decoder α) : (bind (Jvm.ClassFile.Reader.s1 : Jvm.ClassFile.Decoder Int) f : Jvm.ClassFile.Decoder α) cc p = f (Jvm.ClassFile.Reader.signed 8 a) cc (p + 1) := by
  have e : (bind (Jvm.ClassFile.Reader.s1 : Jvm.ClassFile.Decoder Int) f : Jvm.ClassFile.Decoder α) cc p = (bind (Jvm.ClassFile.Reader.u1 : Jvm.ClassFile.Decoder Nat) (fun x => f (Jvm.ClassFile.Reader.signed 8 x)) : Jvm.ClassFile.Decoder α) cc p := by
    show (do let (a, s) ← (do let (a, s) ← (Jvm.ClassFile.Reader.u1 : Jvm.ClassFile.Decoder Nat) cc p; .ok (Jvm.ClassFile.Reader.signed 8 a, s) : Except Jvm.ClassFile.DecodeError (Int × Nat)); f a cc s : Except Jvm.ClassFile.DecodeError (α × Nat)) = (do let (a, s) ← (Jvm.ClassFile.Reader.u1 : Jvm.ClassFile.Decoder Nat) cc p; f (Jvm.ClassFile.Reader.signed 8 a) cc s : Except Jvm.ClassFile.DecodeError (α × Nat))
    cases (Jvm.ClassFile.Reader.u1 : Jvm.ClassFile.Decoder Nat) cc p <;> rfl
  rw [e, fd_u1_run h]
theorem fd_s2_run {α : Type} {cc : ByteArray} {p a b : Nat} (h : fd_at1 cc p a) (h2 : fd_at1 cc (p + 1) b) (f : Int → Jvm.ClassFile.Decoder α) : (bind (Jvm.ClassFile.Reader.s2 : Jvm.ClassFile.Decoder Int) f : Jvm.ClassFile.Decoder α) cc p = f (Jvm.ClassFile.Reader.signed 16 (a * 256 + b)) cc (p + 2) := by
  have e : (bind (Jvm.ClassFile.Reader.s2 : Jvm.ClassFile.Decoder Int) f : Jvm.ClassFile.Decoder α) cc p = (bind (Jvm.ClassFile.Reader.u2 : Jvm.ClassFile.Decoder Nat) (fun x => f (Jvm.ClassFile.Reader.signed 16 x)) : Jvm.ClassFile.Decoder α) cc p := by
    show (do let (a, s) ← (do let (a, s) ← (Jvm.ClassFile.Reader.u2 : Jvm.ClassFile.Decoder Nat) cc p; .ok (Jvm.ClassFile.Reader.signed 16 a, s) : Except Jvm.ClassFile.DecodeError (Int × Nat)); f a cc s : Except Jvm.ClassFile.DecodeError (α × Nat)) = (do let (a, s) ← (Jvm.ClassFile.Reader.u2 : Jvm.ClassFile.Decoder Nat) cc p; f (Jvm.ClassFile.Reader.signed 16 a) cc s : Except Jvm.ClassFile.DecodeError (α × Nat))
    cases (Jvm.ClassFile.Reader.u2 : Jvm.ClassFile.Decoder Nat) cc p <;> rfl
  rw [e, fd_u2_run h h2]
/-- decode by what the body gives -/
theorem fd_dec_of {cc : ByteArray} {p v n : Nat} {i : Instr} (h : fd_at1 cc p v) (F : Nat → Jvm.ClassFile.Decoder Instr) (hF : Jvm.ClassFile.Decoder.instr p = bind (Jvm.ClassFile.Reader.u1 : Jvm.ClassFile.Decoder Nat) F) (he : F v cc (p + 1) = .ok (i, p + n)) : decode cc p = .ok (i, n) := by
  have e : (Jvm.ClassFile.Decoder.instr p) cc p = .ok (i, p + n) := by rw [hF, fd_u1_run h, he]
  have e2 : decode cc p = (match Jvm.ClassFile.Decoder.instr p cc p with | .error x => .error x | .ok (j, s) => .ok (j, s - p)) := by
    show (do let (j, s) ← Jvm.ClassFile.Decoder.instr p cc p; Pure.pure (j, s - p) : Except Jvm.ClassFile.DecodeError (Instr × Nat)) = _
    cases Jvm.ClassFile.Decoder.instr p cc p <;> rfl
  rw [e2, e]
  show Except.ok (i, p + n - p) = _
  rw [Nat.add_sub_cancel_left]
/-- two bytes of a signed number, if it is one -/
def fd_two (op : Nat) (x : Int) : Option (List Nat) := if Jvm.ClassFile.Reader.signed 16 ((x.emod 65536).toNat / 256 * 256 + (x.emod 65536).toNat % 256) = x then some [op, (x.emod 65536).toNat / 256, (x.emod 65536).toNat % 256] else none
def fd_one (op : Nat) (x : Int) : Option (List Nat) := if Jvm.ClassFile.Reader.signed 8 (x.emod 256).toNat = x then some [op, (x.emod 256).toNat] else none
/-- an instruction's bytes (none: not told here) -/
def fd_enc : Instr → Option (List Nat)
  | .aaload => some [50]
  | .aastore => some [83]
  | .aconst_null => some [1]
  | .areturn => some [176]
  | .arraylength => some [190]
  | .athrow => some [191]
  | .baload => some [51]
  | .bastore => some [84]
  | .dup => some [89]
  | .dup_x1 => some [90]
  | .dup2 => some [92]
  | .i2b => some [145]
  | .i2c => some [146]
  | .i2l => some [133]
  | .i2s => some [147]
  | .iadd => some [96]
  | .iaload => some [46]
  | .iand => some [126]
  | .iastore => some [79]
  | .idiv => some [108]
  | .imul => some [104]
  | .ineg => some [116]
  | .ior => some [128]
  | .irem => some [112]
  | .ireturn => some [172]
  | .ishl => some [120]
  | .ishr => some [122]
  | .isub => some [100]
  | .iushr => some [124]
  | .ixor => some [130]
  | .l2i => some [136]
  | .ladd => some [97]
  | .laload => some [47]
  | .land => some [127]
  | .lastore => some [80]
  | .lcmp => some [148]
  | .ldiv => some [109]
  | .lmul => some [105]
  | .lneg => some [117]
  | .lor => some [129]
  | .lrem => some [113]
  | .lreturn => some [173]
  | .lshl => some [121]
  | .lshr => some [123]
  | .lsub => some [101]
  | .lushr => some [125]
  | .lxor => some [131]
  | .nop => some [0]
  | .pop => some [87]
  | .pop2 => some [88]
  | .return_ => some [177]
  | .swap => some [95]
  | .aload_n n => some [42 + n.val]
  | .astore_n n => some [75 + n.val]
  | .iload_n n => some [26 + n.val]
  | .istore_n n => some [59 + n.val]
  | .lload_n n => some [30 + n.val]
  | .lstore_n n => some [63 + n.val]
  | .lconst n => some [9 + n.val]
  | .aload n => some [25, n]
  | .astore n => some [58, n]
  | .iload n => some [21, n]
  | .istore n => some [54, n]
  | .lload n => some [22, n]
  | .lstore n => some [55, n]
  | .ldc n => some [18, n]
  | .anewarray n => some [189, n / 256, n % 256]
  | .checkcast n => some [192, n / 256, n % 256]
  | .getfield n => some [180, n / 256, n % 256]
  | .getstatic n => some [178, n / 256, n % 256]
  | .invokespecial n => some [183, n / 256, n % 256]
  | .invokestatic n => some [184, n / 256, n % 256]
  | .invokevirtual n => some [182, n / 256, n % 256]
  | .ldc_w n => some [19, n / 256, n % 256]
  | .ldc2_w n => some [20, n / 256, n % 256]
  | .new n => some [187, n / 256, n % 256]
  | .putfield n => some [181, n / 256, n % 256]
  | .putstatic n => some [179, n / 256, n % 256]
  | .instanceof n => some [193, n / 256, n % 256]
  | .goto x => fd_two 167 x
  | .ifnonnull x => fd_two 199 x
  | .ifnull x => fd_two 198 x
  | .ifCond .eq x => fd_two 153 x
  | .ifCond .ne x => fd_two 154 x
  | .ifCond .lt x => fd_two 155 x
  | .ifCond .ge x => fd_two 156 x
  | .ifCond .gt x => fd_two 157 x
  | .ifCond .le x => fd_two 158 x
  | .if_icmp .eq x => fd_two 159 x
  | .if_icmp .ne x => fd_two 160 x
  | .if_icmp .lt x => fd_two 161 x
  | .if_icmp .ge x => fd_two 162 x
  | .if_icmp .gt x => fd_two 163 x
  | .if_icmp .le x => fd_two 164 x
  | .if_acmp .eq x => fd_two 165 x
  | .if_acmp .ne x => fd_two 166 x
  | .newarray .boolean => some [188, 4]
  | .newarray .char => some [188, 5]
  | .newarray .float => some [188, 6]
  | .newarray .double => some [188, 7]
  | .newarray .byte => some [188, 8]
  | .newarray .short => some [188, 9]
  | .newarray .int => some [188, 10]
  | .newarray .long => some [188, 11]
  | .bipush x => fd_one 16 x
  | .sipush x => fd_two 17 x
  | .iinc n x => if Jvm.ClassFile.Reader.signed 8 (x.emod 256).toNat = x then some [132, n, (x.emod 256).toNat] else none
  | .iconst x => if -1 ≤ x ∧ x ≤ 5 then some [(x + 3).toNat] else none
  | _ => none
/-- the bytes stand there -/
def fd_st (cc : ByteArray) (p : Nat) (bs : List Nat) : Prop := ∀ k v, bs[k]? = some v → fd_at1 cc (p + k) v
theorem fd_st0 {cc : ByteArray} {p a : Nat} {l : List Nat} (h : fd_st cc p (a :: l)) : fd_at1 cc p a := h 0 a rfl
theorem fd_st1 {cc : ByteArray} {p a b : Nat} {l : List Nat} (h : fd_st cc p (a :: b :: l)) : fd_at1 cc (p + 1) b := h 1 b rfl
theorem fd_st2 {cc : ByteArray} {p a b c : Nat} {l : List Nat} (h : fd_st cc p (a :: b :: c :: l)) : fd_at1 cc (p + 1 + 1) c := h 2 c rfl
theorem fd_two_ok {op : Nat} {x : Int} {bs : List Nat} (h : fd_two op x = some bs) : ∃ a b, bs = [op, a, b] ∧ Jvm.ClassFile.Reader.signed 16 (a * 256 + b) = x := by
  unfold fd_two at h
  split at h
  · rename_i e
    cases h
    exact ⟨_, _, rfl, e⟩
  · cases h
theorem fd_one_ok {op : Nat} {x : Int} {bs : List Nat} (h : fd_one op x = some bs) : ∃ a, bs = [op, a] ∧ Jvm.ClassFile.Reader.signed 8 a = x := by
  unfold fd_one at h
  split at h
  · rename_i e
    cases h
    exact ⟨_, rfl, e⟩
  · cases h
theorem fd_e_aaload {cc : ByteArray} {p : Nat} (h : fd_at1 cc p 50) : decode cc p = .ok (.aaload, 1) := fd_dec_of h _ rfl rfl
theorem fd_e_aastore {cc : ByteArray} {p : Nat} (h : fd_at1 cc p 83) : decode cc p = .ok (.aastore, 1) := fd_dec_of h _ rfl rfl
theorem fd_e_aconst_null {cc : ByteArray} {p : Nat} (h : fd_at1 cc p 1) : decode cc p = .ok (.aconst_null, 1) := fd_dec_of h _ rfl rfl
theorem fd_e_areturn {cc : ByteArray} {p : Nat} (h : fd_at1 cc p 176) : decode cc p = .ok (.areturn, 1) := fd_dec_of h _ rfl rfl
theorem fd_e_arraylength {cc : ByteArray} {p : Nat} (h : fd_at1 cc p 190) : decode cc p = .ok (.arraylength, 1) := fd_dec_of h _ rfl rfl
theorem fd_e_athrow {cc : ByteArray} {p : Nat} (h : fd_at1 cc p 191) : decode cc p = .ok (.athrow, 1) := fd_dec_of h _ rfl rfl
theorem fd_e_baload {cc : ByteArray} {p : Nat} (h : fd_at1 cc p 51) : decode cc p = .ok (.baload, 1) := fd_dec_of h _ rfl rfl
theorem fd_e_bastore {cc : ByteArray} {p : Nat} (h : fd_at1 cc p 84) : decode cc p = .ok (.bastore, 1) := fd_dec_of h _ rfl rfl
theorem fd_e_dup {cc : ByteArray} {p : Nat} (h : fd_at1 cc p 89) : decode cc p = .ok (.dup, 1) := fd_dec_of h _ rfl rfl
theorem fd_e_dup_x1 {cc : ByteArray} {p : Nat} (h : fd_at1 cc p 90) : decode cc p = .ok (.dup_x1, 1) := fd_dec_of h _ rfl rfl
theorem fd_e_dup2 {cc : ByteArray} {p : Nat} (h : fd_at1 cc p 92) : decode cc p = .ok (.dup2, 1) := fd_dec_of h _ rfl rfl
theorem fd_e_i2b {cc : ByteArray} {p : Nat} (h : fd_at1 cc p 145) : decode cc p = .ok (.i2b, 1) := fd_dec_of h _ rfl rfl
theorem fd_e_i2c {cc : ByteArray} {p : Nat} (h : fd_at1 cc p 146) : decode cc p = .ok (.i2c, 1) := fd_dec_of h _ rfl rfl
theorem fd_e_i2l {cc : ByteArray} {p : Nat} (h : fd_at1 cc p 133) : decode cc p = .ok (.i2l, 1) := fd_dec_of h _ rfl rfl
theorem fd_e_i2s {cc : ByteArray} {p : Nat} (h : fd_at1 cc p 147) : decode cc p = .ok (.i2s, 1) := fd_dec_of h _ rfl rfl
theorem fd_e_iadd {cc : ByteArray} {p : Nat} (h : fd_at1 cc p 96) : decode cc p = .ok (.iadd, 1) := fd_dec_of h _ rfl rfl
theorem fd_e_iaload {cc : ByteArray} {p : Nat} (h : fd_at1 cc p 46) : decode cc p = .ok (.iaload, 1) := fd_dec_of h _ rfl rfl
theorem fd_e_iand {cc : ByteArray} {p : Nat} (h : fd_at1 cc p 126) : decode cc p = .ok (.iand, 1) := fd_dec_of h _ rfl rfl
theorem fd_e_iastore {cc : ByteArray} {p : Nat} (h : fd_at1 cc p 79) : decode cc p = .ok (.iastore, 1) := fd_dec_of h _ rfl rfl
theorem fd_e_idiv {cc : ByteArray} {p : Nat} (h : fd_at1 cc p 108) : decode cc p = .ok (.idiv, 1) := fd_dec_of h _ rfl rfl
theorem fd_e_imul {cc : ByteArray} {p : Nat} (h : fd_at1 cc p 104) : decode cc p = .ok (.imul, 1) := fd_dec_of h _ rfl rfl
theorem fd_e_ineg {cc : ByteArray} {p : Nat} (h : fd_at1 cc p 116) : decode cc p = .ok (.ineg, 1) := fd_dec_of h _ rfl rfl
theorem fd_e_ior {cc : ByteArray} {p : Nat} (h : fd_at1 cc p 128) : decode cc p = .ok (.ior, 1) := fd_dec_of h _ rfl rfl
theorem fd_e_irem {cc : ByteArray} {p : Nat} (h : fd_at1 cc p 112) : decode cc p = .ok (.irem, 1) := fd_dec_of h _ rfl rfl
theorem fd_e_ireturn {cc : ByteArray} {p : Nat} (h : fd_at1 cc p 172) : decode cc p = .ok (.ireturn, 1) := fd_dec_of h _ rfl rfl
theorem fd_e_ishl {cc : ByteArray} {p : Nat} (h : fd_at1 cc p 120) : decode cc p = .ok (.ishl, 1) := fd_dec_of h _ rfl rfl
theorem fd_e_ishr {cc : ByteArray} {p : Nat} (h : fd_at1 cc p 122) : decode cc p = .ok (.ishr, 1) := fd_dec_of h _ rfl rfl
theorem fd_e_isub {cc : ByteArray} {p : Nat} (h : fd_at1 cc p 100) : decode cc p = .ok (.isub, 1) := fd_dec_of h _ rfl rfl
theorem fd_e_iushr {cc : ByteArray} {p : Nat} (h : fd_at1 cc p 124) : decode cc p = .ok (.iushr, 1) := fd_dec_of h _ rfl rfl
theorem fd_e_ixor {cc : ByteArray} {p : Nat} (h : fd_at1 cc p 130) : decode cc p = .ok (.ixor, 1) := fd_dec_of h _ rfl rfl
theorem fd_e_l2i {cc : ByteArray} {p : Nat} (h : fd_at1 cc p 136) : decode cc p = .ok (.l2i, 1) := fd_dec_of h _ rfl rfl
theorem fd_e_ladd {cc : ByteArray} {p : Nat} (h : fd_at1 cc p 97) : decode cc p = .ok (.ladd, 1) := fd_dec_of h _ rfl rfl
theorem fd_e_laload {cc : ByteArray} {p : Nat} (h : fd_at1 cc p 47) : decode cc p = .ok (.laload, 1) := fd_dec_of h _ rfl rfl
theorem fd_e_land {cc : ByteArray} {p : Nat} (h : fd_at1 cc p 127) : decode cc p = .ok (.land, 1) := fd_dec_of h _ rfl rfl
theorem fd_e_lastore {cc : ByteArray} {p : Nat} (h : fd_at1 cc p 80) : decode cc p = .ok (.lastore, 1) := fd_dec_of h _ rfl rfl
theorem fd_e_lcmp {cc : ByteArray} {p : Nat} (h : fd_at1 cc p 148) : decode cc p = .ok (.lcmp, 1) := fd_dec_of h _ rfl rfl
theorem fd_e_ldiv {cc : ByteArray} {p : Nat} (h : fd_at1 cc p 109) : decode cc p = .ok (.ldiv, 1) := fd_dec_of h _ rfl rfl
theorem fd_e_lmul {cc : ByteArray} {p : Nat} (h : fd_at1 cc p 105) : decode cc p = .ok (.lmul, 1) := fd_dec_of h _ rfl rfl
theorem fd_e_lneg {cc : ByteArray} {p : Nat} (h : fd_at1 cc p 117) : decode cc p = .ok (.lneg, 1) := fd_dec_of h _ rfl rfl
theorem fd_e_lor {cc : ByteArray} {p : Nat} (h : fd_at1 cc p 129) : decode cc p = .ok (.lor, 1) := fd_dec_of h _ rfl rfl
theorem fd_e_lrem {cc : ByteArray} {p : Nat} (h : fd_at1 cc p 113) : decode cc p = .ok (.lrem, 1) := fd_dec_of h _ rfl rfl
theorem fd_e_lreturn {cc : ByteArray} {p : Nat} (h : fd_at1 cc p 173) : decode cc p = .ok (.lreturn, 1) := fd_dec_of h _ rfl rfl
theorem fd_e_lshl {cc : ByteArray} {p : Nat} (h : fd_at1 cc p 121) : decode cc p = .ok (.lshl, 1) := fd_dec_of h _ rfl rfl
theorem fd_e_lshr {cc : ByteArray} {p : Nat} (h : fd_at1 cc p 123) : decode cc p = .ok (.lshr, 1) := fd_dec_of h _ rfl rfl
theorem fd_e_lsub {cc : ByteArray} {p : Nat} (h : fd_at1 cc p 101) : decode cc p = .ok (.lsub, 1) := fd_dec_of h _ rfl rfl
theorem fd_e_lushr {cc : ByteArray} {p : Nat} (h : fd_at1 cc p 125) : decode cc p = .ok (.lushr, 1) := fd_dec_of h _ rfl rfl
theorem fd_e_lxor {cc : ByteArray} {p : Nat} (h : fd_at1 cc p 131) : decode cc p = .ok (.lxor, 1) := fd_dec_of h _ rfl rfl
theorem fd_e_nop {cc : ByteArray} {p : Nat} (h : fd_at1 cc p 0) : decode cc p = .ok (.nop, 1) := fd_dec_of h _ rfl rfl
theorem fd_e_pop {cc : ByteArray} {p : Nat} (h : fd_at1 cc p 87) : decode cc p = .ok (.pop, 1) := fd_dec_of h _ rfl rfl
theorem fd_e_pop2 {cc : ByteArray} {p : Nat} (h : fd_at1 cc p 88) : decode cc p = .ok (.pop2, 1) := fd_dec_of h _ rfl rfl
theorem fd_e_return_ {cc : ByteArray} {p : Nat} (h : fd_at1 cc p 177) : decode cc p = .ok (.return_, 1) := fd_dec_of h _ rfl rfl
theorem fd_e_swap {cc : ByteArray} {p : Nat} (h : fd_at1 cc p 95) : decode cc p = .ok (.swap, 1) := fd_dec_of h _ rfl rfl
theorem fd_e_aload_n0 {cc : ByteArray} {p : Nat} (h : fd_at1 cc p 42) : decode cc p = .ok (.aload_n 0, 1) := fd_dec_of h _ rfl rfl
theorem fd_e_aload_n1 {cc : ByteArray} {p : Nat} (h : fd_at1 cc p 43) : decode cc p = .ok (.aload_n 1, 1) := fd_dec_of h _ rfl rfl
theorem fd_e_aload_n2 {cc : ByteArray} {p : Nat} (h : fd_at1 cc p 44) : decode cc p = .ok (.aload_n 2, 1) := fd_dec_of h _ rfl rfl
theorem fd_e_aload_n3 {cc : ByteArray} {p : Nat} (h : fd_at1 cc p 45) : decode cc p = .ok (.aload_n 3, 1) := fd_dec_of h _ rfl rfl
theorem fd_e_astore_n0 {cc : ByteArray} {p : Nat} (h : fd_at1 cc p 75) : decode cc p = .ok (.astore_n 0, 1) := fd_dec_of h _ rfl rfl
theorem fd_e_astore_n1 {cc : ByteArray} {p : Nat} (h : fd_at1 cc p 76) : decode cc p = .ok (.astore_n 1, 1) := fd_dec_of h _ rfl rfl
theorem fd_e_astore_n2 {cc : ByteArray} {p : Nat} (h : fd_at1 cc p 77) : decode cc p = .ok (.astore_n 2, 1) := fd_dec_of h _ rfl rfl
theorem fd_e_astore_n3 {cc : ByteArray} {p : Nat} (h : fd_at1 cc p 78) : decode cc p = .ok (.astore_n 3, 1) := fd_dec_of h _ rfl rfl
theorem fd_e_iload_n0 {cc : ByteArray} {p : Nat} (h : fd_at1 cc p 26) : decode cc p = .ok (.iload_n 0, 1) := fd_dec_of h _ rfl rfl
theorem fd_e_iload_n1 {cc : ByteArray} {p : Nat} (h : fd_at1 cc p 27) : decode cc p = .ok (.iload_n 1, 1) := fd_dec_of h _ rfl rfl
theorem fd_e_iload_n2 {cc : ByteArray} {p : Nat} (h : fd_at1 cc p 28) : decode cc p = .ok (.iload_n 2, 1) := fd_dec_of h _ rfl rfl
theorem fd_e_iload_n3 {cc : ByteArray} {p : Nat} (h : fd_at1 cc p 29) : decode cc p = .ok (.iload_n 3, 1) := fd_dec_of h _ rfl rfl
theorem fd_e_istore_n0 {cc : ByteArray} {p : Nat} (h : fd_at1 cc p 59) : decode cc p = .ok (.istore_n 0, 1) := fd_dec_of h _ rfl rfl
theorem fd_e_istore_n1 {cc : ByteArray} {p : Nat} (h : fd_at1 cc p 60) : decode cc p = .ok (.istore_n 1, 1) := fd_dec_of h _ rfl rfl
theorem fd_e_istore_n2 {cc : ByteArray} {p : Nat} (h : fd_at1 cc p 61) : decode cc p = .ok (.istore_n 2, 1) := fd_dec_of h _ rfl rfl
theorem fd_e_istore_n3 {cc : ByteArray} {p : Nat} (h : fd_at1 cc p 62) : decode cc p = .ok (.istore_n 3, 1) := fd_dec_of h _ rfl rfl
theorem fd_e_lload_n0 {cc : ByteArray} {p : Nat} (h : fd_at1 cc p 30) : decode cc p = .ok (.lload_n 0, 1) := fd_dec_of h _ rfl rfl
theorem fd_e_lload_n1 {cc : ByteArray} {p : Nat} (h : fd_at1 cc p 31) : decode cc p = .ok (.lload_n 1, 1) := fd_dec_of h _ rfl rfl
theorem fd_e_lload_n2 {cc : ByteArray} {p : Nat} (h : fd_at1 cc p 32) : decode cc p = .ok (.lload_n 2, 1) := fd_dec_of h _ rfl rfl
theorem fd_e_lload_n3 {cc : ByteArray} {p : Nat} (h : fd_at1 cc p 33) : decode cc p = .ok (.lload_n 3, 1) := fd_dec_of h _ rfl rfl
theorem fd_e_lstore_n0 {cc : ByteArray} {p : Nat} (h : fd_at1 cc p 63) : decode cc p = .ok (.lstore_n 0, 1) := fd_dec_of h _ rfl rfl
theorem fd_e_lstore_n1 {cc : ByteArray} {p : Nat} (h : fd_at1 cc p 64) : decode cc p = .ok (.lstore_n 1, 1) := fd_dec_of h _ rfl rfl
theorem fd_e_lstore_n2 {cc : ByteArray} {p : Nat} (h : fd_at1 cc p 65) : decode cc p = .ok (.lstore_n 2, 1) := fd_dec_of h _ rfl rfl
theorem fd_e_lstore_n3 {cc : ByteArray} {p : Nat} (h : fd_at1 cc p 66) : decode cc p = .ok (.lstore_n 3, 1) := fd_dec_of h _ rfl rfl
theorem fd_e_lconst0 {cc : ByteArray} {p : Nat} (h : fd_at1 cc p 9) : decode cc p = .ok (.lconst 0, 1) := fd_dec_of h _ rfl rfl
theorem fd_e_lconst1 {cc : ByteArray} {p : Nat} (h : fd_at1 cc p 10) : decode cc p = .ok (.lconst 1, 1) := fd_dec_of h _ rfl rfl
theorem fd_e_iconst0 {cc : ByteArray} {p : Nat} (h : fd_at1 cc p 2) : decode cc p = .ok (.iconst (-1), 1) := fd_dec_of h _ rfl rfl
theorem fd_e_iconst1 {cc : ByteArray} {p : Nat} (h : fd_at1 cc p 3) : decode cc p = .ok (.iconst 0, 1) := fd_dec_of h _ rfl rfl
theorem fd_e_iconst2 {cc : ByteArray} {p : Nat} (h : fd_at1 cc p 4) : decode cc p = .ok (.iconst 1, 1) := fd_dec_of h _ rfl rfl
theorem fd_e_iconst3 {cc : ByteArray} {p : Nat} (h : fd_at1 cc p 5) : decode cc p = .ok (.iconst 2, 1) := fd_dec_of h _ rfl rfl
theorem fd_e_iconst4 {cc : ByteArray} {p : Nat} (h : fd_at1 cc p 6) : decode cc p = .ok (.iconst 3, 1) := fd_dec_of h _ rfl rfl
theorem fd_e_iconst5 {cc : ByteArray} {p : Nat} (h : fd_at1 cc p 7) : decode cc p = .ok (.iconst 4, 1) := fd_dec_of h _ rfl rfl
theorem fd_e_iconst6 {cc : ByteArray} {p : Nat} (h : fd_at1 cc p 8) : decode cc p = .ok (.iconst 5, 1) := fd_dec_of h _ rfl rfl
theorem fd_e_aload {cc : ByteArray} {p a : Nat} (h : fd_at1 cc p 25) (h1 : fd_at1 cc (p + 1) a) : decode cc p = .ok (.aload a, 2) := fd_dec_of h _ rfl (fd_u1_run h1 (fun x => pure (Instr.aload x)))
theorem fd_e_astore {cc : ByteArray} {p a : Nat} (h : fd_at1 cc p 58) (h1 : fd_at1 cc (p + 1) a) : decode cc p = .ok (.astore a, 2) := fd_dec_of h _ rfl (fd_u1_run h1 (fun x => pure (Instr.astore x)))
theorem fd_e_iload {cc : ByteArray} {p a : Nat} (h : fd_at1 cc p 21) (h1 : fd_at1 cc (p + 1) a) : decode cc p = .ok (.iload a, 2) := fd_dec_of h _ rfl (fd_u1_run h1 (fun x => pure (Instr.iload x)))
theorem fd_e_istore {cc : ByteArray} {p a : Nat} (h : fd_at1 cc p 54) (h1 : fd_at1 cc (p + 1) a) : decode cc p = .ok (.istore a, 2) := fd_dec_of h _ rfl (fd_u1_run h1 (fun x => pure (Instr.istore x)))
theorem fd_e_lload {cc : ByteArray} {p a : Nat} (h : fd_at1 cc p 22) (h1 : fd_at1 cc (p + 1) a) : decode cc p = .ok (.lload a, 2) := fd_dec_of h _ rfl (fd_u1_run h1 (fun x => pure (Instr.lload x)))
theorem fd_e_lstore {cc : ByteArray} {p a : Nat} (h : fd_at1 cc p 55) (h1 : fd_at1 cc (p + 1) a) : decode cc p = .ok (.lstore a, 2) := fd_dec_of h _ rfl (fd_u1_run h1 (fun x => pure (Instr.lstore x)))
theorem fd_e_ldc {cc : ByteArray} {p a : Nat} (h : fd_at1 cc p 18) (h1 : fd_at1 cc (p + 1) a) : decode cc p = .ok (.ldc a, 2) := fd_dec_of h _ rfl (fd_u1_run h1 (fun x => pure (Instr.ldc x)))
theorem fd_e_anewarray {cc : ByteArray} {p a b : Nat} (h : fd_at1 cc p 189) (h1 : fd_at1 cc (p + 1) a) (h2 : fd_at1 cc (p + 1 + 1) b) : decode cc p = .ok (.anewarray (a * 256 + b), 3) := fd_dec_of h _ rfl (fd_u2_run h1 h2 (fun x => pure (Instr.anewarray x)))
theorem fd_e_checkcast {cc : ByteArray} {p a b : Nat} (h : fd_at1 cc p 192) (h1 : fd_at1 cc (p + 1) a) (h2 : fd_at1 cc (p + 1 + 1) b) : decode cc p = .ok (.checkcast (a * 256 + b), 3) := fd_dec_of h _ rfl (fd_u2_run h1 h2 (fun x => pure (Instr.checkcast x)))
theorem fd_e_getfield {cc : ByteArray} {p a b : Nat} (h : fd_at1 cc p 180) (h1 : fd_at1 cc (p + 1) a) (h2 : fd_at1 cc (p + 1 + 1) b) : decode cc p = .ok (.getfield (a * 256 + b), 3) := fd_dec_of h _ rfl (fd_u2_run h1 h2 (fun x => pure (Instr.getfield x)))
theorem fd_e_getstatic {cc : ByteArray} {p a b : Nat} (h : fd_at1 cc p 178) (h1 : fd_at1 cc (p + 1) a) (h2 : fd_at1 cc (p + 1 + 1) b) : decode cc p = .ok (.getstatic (a * 256 + b), 3) := fd_dec_of h _ rfl (fd_u2_run h1 h2 (fun x => pure (Instr.getstatic x)))
theorem fd_e_invokespecial {cc : ByteArray} {p a b : Nat} (h : fd_at1 cc p 183) (h1 : fd_at1 cc (p + 1) a) (h2 : fd_at1 cc (p + 1 + 1) b) : decode cc p = .ok (.invokespecial (a * 256 + b), 3) := fd_dec_of h _ rfl (fd_u2_run h1 h2 (fun x => pure (Instr.invokespecial x)))
theorem fd_e_invokestatic {cc : ByteArray} {p a b : Nat} (h : fd_at1 cc p 184) (h1 : fd_at1 cc (p + 1) a) (h2 : fd_at1 cc (p + 1 + 1) b) : decode cc p = .ok (.invokestatic (a * 256 + b), 3) := fd_dec_of h _ rfl (fd_u2_run h1 h2 (fun x => pure (Instr.invokestatic x)))
theorem fd_e_invokevirtual {cc : ByteArray} {p a b : Nat} (h : fd_at1 cc p 182) (h1 : fd_at1 cc (p + 1) a) (h2 : fd_at1 cc (p + 1 + 1) b) : decode cc p = .ok (.invokevirtual (a * 256 + b), 3) := fd_dec_of h _ rfl (fd_u2_run h1 h2 (fun x => pure (Instr.invokevirtual x)))
theorem fd_e_ldc_w {cc : ByteArray} {p a b : Nat} (h : fd_at1 cc p 19) (h1 : fd_at1 cc (p + 1) a) (h2 : fd_at1 cc (p + 1 + 1) b) : decode cc p = .ok (.ldc_w (a * 256 + b), 3) := fd_dec_of h _ rfl (fd_u2_run h1 h2 (fun x => pure (Instr.ldc_w x)))
theorem fd_e_ldc2_w {cc : ByteArray} {p a b : Nat} (h : fd_at1 cc p 20) (h1 : fd_at1 cc (p + 1) a) (h2 : fd_at1 cc (p + 1 + 1) b) : decode cc p = .ok (.ldc2_w (a * 256 + b), 3) := fd_dec_of h _ rfl (fd_u2_run h1 h2 (fun x => pure (Instr.ldc2_w x)))
theorem fd_e_new {cc : ByteArray} {p a b : Nat} (h : fd_at1 cc p 187) (h1 : fd_at1 cc (p + 1) a) (h2 : fd_at1 cc (p + 1 + 1) b) : decode cc p = .ok (.new (a * 256 + b), 3) := fd_dec_of h _ rfl (fd_u2_run h1 h2 (fun x => pure (Instr.new x)))
theorem fd_e_putfield {cc : ByteArray} {p a b : Nat} (h : fd_at1 cc p 181) (h1 : fd_at1 cc (p + 1) a) (h2 : fd_at1 cc (p + 1 + 1) b) : decode cc p = .ok (.putfield (a * 256 + b), 3) := fd_dec_of h _ rfl (fd_u2_run h1 h2 (fun x => pure (Instr.putfield x)))
theorem fd_e_putstatic {cc : ByteArray} {p a b : Nat} (h : fd_at1 cc p 179) (h1 : fd_at1 cc (p + 1) a) (h2 : fd_at1 cc (p + 1 + 1) b) : decode cc p = .ok (.putstatic (a * 256 + b), 3) := fd_dec_of h _ rfl (fd_u2_run h1 h2 (fun x => pure (Instr.putstatic x)))
theorem fd_e_instanceof {cc : ByteArray} {p a b : Nat} (h : fd_at1 cc p 193) (h1 : fd_at1 cc (p + 1) a) (h2 : fd_at1 cc (p + 1 + 1) b) : decode cc p = .ok (.instanceof (a * 256 + b), 3) := fd_dec_of h _ rfl (fd_u2_run h1 h2 (fun x => pure (Instr.instanceof x)))
theorem fd_e_goto {cc : ByteArray} {p a b : Nat} (h : fd_at1 cc p 167) (h1 : fd_at1 cc (p + 1) a) (h2 : fd_at1 cc (p + 1 + 1) b) : decode cc p = .ok (Instr.goto (Jvm.ClassFile.Reader.signed 16 (a * 256 + b)), 3) := fd_dec_of h _ rfl (fd_s2_run h1 h2 (fun x => pure (Instr.goto x)))
theorem fd_e_ifnonnull {cc : ByteArray} {p a b : Nat} (h : fd_at1 cc p 199) (h1 : fd_at1 cc (p + 1) a) (h2 : fd_at1 cc (p + 1 + 1) b) : decode cc p = .ok (Instr.ifnonnull (Jvm.ClassFile.Reader.signed 16 (a * 256 + b)), 3) := fd_dec_of h _ rfl (fd_s2_run h1 h2 (fun x => pure (Instr.ifnonnull x)))
theorem fd_e_ifnull {cc : ByteArray} {p a b : Nat} (h : fd_at1 cc p 198) (h1 : fd_at1 cc (p + 1) a) (h2 : fd_at1 cc (p + 1 + 1) b) : decode cc p = .ok (Instr.ifnull (Jvm.ClassFile.Reader.signed 16 (a * 256 + b)), 3) := fd_dec_of h _ rfl (fd_s2_run h1 h2 (fun x => pure (Instr.ifnull x)))
theorem fd_e_ifCond_eq {cc : ByteArray} {p a b : Nat} (h : fd_at1 cc p 153) (h1 : fd_at1 cc (p + 1) a) (h2 : fd_at1 cc (p + 1 + 1) b) : decode cc p = .ok (Instr.ifCond .eq (Jvm.ClassFile.Reader.signed 16 (a * 256 + b)), 3) := fd_dec_of h _ rfl (fd_s2_run h1 h2 (fun x => pure (Instr.ifCond .eq x)))
theorem fd_e_ifCond_ne {cc : ByteArray} {p a b : Nat} (h : fd_at1 cc p 154) (h1 : fd_at1 cc (p + 1) a) (h2 : fd_at1 cc (p + 1 + 1) b) : decode cc p = .ok (Instr.ifCond .ne (Jvm.ClassFile.Reader.signed 16 (a * 256 + b)), 3) := fd_dec_of h _ rfl (fd_s2_run h1 h2 (fun x => pure (Instr.ifCond .ne x)))
theorem fd_e_ifCond_lt {cc : ByteArray} {p a b : Nat} (h : fd_at1 cc p 155) (h1 : fd_at1 cc (p + 1) a) (h2 : fd_at1 cc (p + 1 + 1) b) : decode cc p = .ok (Instr.ifCond .lt (Jvm.ClassFile.Reader.signed 16 (a * 256 + b)), 3) := fd_dec_of h _ rfl (fd_s2_run h1 h2 (fun x => pure (Instr.ifCond .lt x)))
theorem fd_e_ifCond_ge {cc : ByteArray} {p a b : Nat} (h : fd_at1 cc p 156) (h1 : fd_at1 cc (p + 1) a) (h2 : fd_at1 cc (p + 1 + 1) b) : decode cc p = .ok (Instr.ifCond .ge (Jvm.ClassFile.Reader.signed 16 (a * 256 + b)), 3) := fd_dec_of h _ rfl (fd_s2_run h1 h2 (fun x => pure (Instr.ifCond .ge x)))
theorem fd_e_ifCond_gt {cc : ByteArray} {p a b : Nat} (h : fd_at1 cc p 157) (h1 : fd_at1 cc (p + 1) a) (h2 : fd_at1 cc (p + 1 + 1) b) : decode cc p = .ok (Instr.ifCond .gt (Jvm.ClassFile.Reader.signed 16 (a * 256 + b)), 3) := fd_dec_of h _ rfl (fd_s2_run h1 h2 (fun x => pure (Instr.ifCond .gt x)))
theorem fd_e_ifCond_le {cc : ByteArray} {p a b : Nat} (h : fd_at1 cc p 158) (h1 : fd_at1 cc (p + 1) a) (h2 : fd_at1 cc (p + 1 + 1) b) : decode cc p = .ok (Instr.ifCond .le (Jvm.ClassFile.Reader.signed 16 (a * 256 + b)), 3) := fd_dec_of h _ rfl (fd_s2_run h1 h2 (fun x => pure (Instr.ifCond .le x)))
theorem fd_e_if_icmp_eq {cc : ByteArray} {p a b : Nat} (h : fd_at1 cc p 159) (h1 : fd_at1 cc (p + 1) a) (h2 : fd_at1 cc (p + 1 + 1) b) : decode cc p = .ok (Instr.if_icmp .eq (Jvm.ClassFile.Reader.signed 16 (a * 256 + b)), 3) := fd_dec_of h _ rfl (fd_s2_run h1 h2 (fun x => pure (Instr.if_icmp .eq x)))
theorem fd_e_if_icmp_ne {cc : ByteArray} {p a b : Nat} (h : fd_at1 cc p 160) (h1 : fd_at1 cc (p + 1) a) (h2 : fd_at1 cc (p + 1 + 1) b) : decode cc p = .ok (Instr.if_icmp .ne (Jvm.ClassFile.Reader.signed 16 (a * 256 + b)), 3) := fd_dec_of h _ rfl (fd_s2_run h1 h2 (fun x => pure (Instr.if_icmp .ne x)))
theorem fd_e_if_icmp_lt {cc : ByteArray} {p a b : Nat} (h : fd_at1 cc p 161) (h1 : fd_at1 cc (p + 1) a) (h2 : fd_at1 cc (p + 1 + 1) b) : decode cc p = .ok (Instr.if_icmp .lt (Jvm.ClassFile.Reader.signed 16 (a * 256 + b)), 3) := fd_dec_of h _ rfl (fd_s2_run h1 h2 (fun x => pure (Instr.if_icmp .lt x)))
theorem fd_e_if_icmp_ge {cc : ByteArray} {p a b : Nat} (h : fd_at1 cc p 162) (h1 : fd_at1 cc (p + 1) a) (h2 : fd_at1 cc (p + 1 + 1) b) : decode cc p = .ok (Instr.if_icmp .ge (Jvm.ClassFile.Reader.signed 16 (a * 256 + b)), 3) := fd_dec_of h _ rfl (fd_s2_run h1 h2 (fun x => pure (Instr.if_icmp .ge x)))
theorem fd_e_if_icmp_gt {cc : ByteArray} {p a b : Nat} (h : fd_at1 cc p 163) (h1 : fd_at1 cc (p + 1) a) (h2 : fd_at1 cc (p + 1 + 1) b) : decode cc p = .ok (Instr.if_icmp .gt (Jvm.ClassFile.Reader.signed 16 (a * 256 + b)), 3) := fd_dec_of h _ rfl (fd_s2_run h1 h2 (fun x => pure (Instr.if_icmp .gt x)))
theorem fd_e_if_icmp_le {cc : ByteArray} {p a b : Nat} (h : fd_at1 cc p 164) (h1 : fd_at1 cc (p + 1) a) (h2 : fd_at1 cc (p + 1 + 1) b) : decode cc p = .ok (Instr.if_icmp .le (Jvm.ClassFile.Reader.signed 16 (a * 256 + b)), 3) := fd_dec_of h _ rfl (fd_s2_run h1 h2 (fun x => pure (Instr.if_icmp .le x)))
theorem fd_e_if_acmp_eq {cc : ByteArray} {p a b : Nat} (h : fd_at1 cc p 165) (h1 : fd_at1 cc (p + 1) a) (h2 : fd_at1 cc (p + 1 + 1) b) : decode cc p = .ok (Instr.if_acmp .eq (Jvm.ClassFile.Reader.signed 16 (a * 256 + b)), 3) := fd_dec_of h _ rfl (fd_s2_run h1 h2 (fun x => pure (Instr.if_acmp .eq x)))
theorem fd_e_if_acmp_ne {cc : ByteArray} {p a b : Nat} (h : fd_at1 cc p 166) (h1 : fd_at1 cc (p + 1) a) (h2 : fd_at1 cc (p + 1 + 1) b) : decode cc p = .ok (Instr.if_acmp .ne (Jvm.ClassFile.Reader.signed 16 (a * 256 + b)), 3) := fd_dec_of h _ rfl (fd_s2_run h1 h2 (fun x => pure (Instr.if_acmp .ne x)))
theorem fd_e_sipush {cc : ByteArray} {p a b : Nat} (h : fd_at1 cc p 17) (h1 : fd_at1 cc (p + 1) a) (h2 : fd_at1 cc (p + 1 + 1) b) : decode cc p = .ok (Instr.sipush (Jvm.ClassFile.Reader.signed 16 (a * 256 + b)), 3) := fd_dec_of h _ rfl (fd_s2_run h1 h2 (fun x => pure (Instr.sipush x)))
theorem fd_e_bipush {cc : ByteArray} {p a : Nat} (h : fd_at1 cc p 16) (h1 : fd_at1 cc (p + 1) a) : decode cc p = .ok (.bipush (Jvm.ClassFile.Reader.signed 8 a), 2) := fd_dec_of h _ rfl (fd_s1_run h1 (fun x => pure (Instr.bipush x)))
theorem fd_e_newarray_boolean {cc : ByteArray} {p : Nat} (h : fd_at1 cc p 188) (h1 : fd_at1 cc (p + 1) 4) : decode cc p = .ok (.newarray .boolean, 2) := fd_dec_of h _ rfl ((fd_u1_run h1 _).trans rfl)
theorem fd_e_newarray_char {cc : ByteArray} {p : Nat} (h : fd_at1 cc p 188) (h1 : fd_at1 cc (p + 1) 5) : decode cc p = .ok (.newarray .char, 2) := fd_dec_of h _ rfl ((fd_u1_run h1 _).trans rfl)
theorem fd_e_newarray_float {cc : ByteArray} {p : Nat} (h : fd_at1 cc p 188) (h1 : fd_at1 cc (p + 1) 6) : decode cc p = .ok (.newarray .float, 2) := fd_dec_of h _ rfl ((fd_u1_run h1 _).trans rfl)
theorem fd_e_newarray_double {cc : ByteArray} {p : Nat} (h : fd_at1 cc p 188) (h1 : fd_at1 cc (p + 1) 7) : decode cc p = .ok (.newarray .double, 2) := fd_dec_of h _ rfl ((fd_u1_run h1 _).trans rfl)
theorem fd_e_newarray_byte {cc : ByteArray} {p : Nat} (h : fd_at1 cc p 188) (h1 : fd_at1 cc (p + 1) 8) : decode cc p = .ok (.newarray .byte, 2) := fd_dec_of h _ rfl ((fd_u1_run h1 _).trans rfl)
theorem fd_e_newarray_short {cc : ByteArray} {p : Nat} (h : fd_at1 cc p 188) (h1 : fd_at1 cc (p + 1) 9) : decode cc p = .ok (.newarray .short, 2) := fd_dec_of h _ rfl ((fd_u1_run h1 _).trans rfl)
theorem fd_e_newarray_int {cc : ByteArray} {p : Nat} (h : fd_at1 cc p 188) (h1 : fd_at1 cc (p + 1) 10) : decode cc p = .ok (.newarray .int, 2) := fd_dec_of h _ rfl ((fd_u1_run h1 _).trans rfl)
theorem fd_e_newarray_long {cc : ByteArray} {p : Nat} (h : fd_at1 cc p 188) (h1 : fd_at1 cc (p + 1) 11) : decode cc p = .ok (.newarray .long, 2) := fd_dec_of h _ rfl ((fd_u1_run h1 _).trans rfl)
theorem fd_e_iinc {cc : ByteArray} {p a b : Nat} (h : fd_at1 cc p 132) (h1 : fd_at1 cc (p + 1) a) (h2 : fd_at1 cc (p + 1 + 1) b) : decode cc p = .ok (.iinc a (Jvm.ClassFile.Reader.signed 8 b), 3) := fd_dec_of h _ rfl ((fd_u1_run h1 (fun x => bind (Jvm.ClassFile.Reader.s1 : Jvm.ClassFile.Decoder Int) (fun y => pure (Instr.iinc x y)))).trans (fd_s1_run h2 (fun y => pure (Instr.iinc a y))))
theorem fd_dm (n : Nat) : n / 256 * 256 + n % 256 = n := by omega
theorem fd_enc_ok {cc : ByteArray} {p : Nat} {i : Instr} {bs : List Nat} (he : fd_enc i = some bs) (hs : fd_st cc p bs) : decode cc p = .ok (i, bs.length) := by
  unfold fd_enc at he
  split at he
  · cases he; exact fd_e_aaload (fd_st0 hs)
  · cases he; exact fd_e_aastore (fd_st0 hs)
  · cases he; exact fd_e_aconst_null (fd_st0 hs)
  · cases he; exact fd_e_areturn (fd_st0 hs)
  · cases he; exact fd_e_arraylength (fd_st0 hs)
  · cases he; exact fd_e_athrow (fd_st0 hs)
  · cases he; exact fd_e_baload (fd_st0 hs)
  · cases he; exact fd_e_bastore (fd_st0 hs)
  · cases he; exact fd_e_dup (fd_st0 hs)
  · cases he; exact fd_e_dup_x1 (fd_st0 hs)
  · cases he; exact fd_e_dup2 (fd_st0 hs)
  · cases he; exact fd_e_i2b (fd_st0 hs)
  · cases he; exact fd_e_i2c (fd_st0 hs)
  · cases he; exact fd_e_i2l (fd_st0 hs)
  · cases he; exact fd_e_i2s (fd_st0 hs)
  · cases he; exact fd_e_iadd (fd_st0 hs)
  · cases he; exact fd_e_iaload (fd_st0 hs)
  · cases he; exact fd_e_iand (fd_st0 hs)
  · cases he; exact fd_e_iastore (fd_st0 hs)
  · cases he; exact fd_e_idiv (fd_st0 hs)
  · cases he; exact fd_e_imul (fd_st0 hs)
  · cases he; exact fd_e_ineg (fd_st0 hs)
  · cases he; exact fd_e_ior (fd_st0 hs)
  · cases he; exact fd_e_irem (fd_st0 hs)
  · cases he; exact fd_e_ireturn (fd_st0 hs)
  · cases he; exact fd_e_ishl (fd_st0 hs)
  · cases he; exact fd_e_ishr (fd_st0 hs)
  · cases he; exact fd_e_isub (fd_st0 hs)
  · cases he; exact fd_e_iushr (fd_st0 hs)
  · cases he; exact fd_e_ixor (fd_st0 hs)
  · cases he; exact fd_e_l2i (fd_st0 hs)
  · cases he; exact fd_e_ladd (fd_st0 hs)
  · cases he; exact fd_e_laload (fd_st0 hs)
  · cases he; exact fd_e_land (fd_st0 hs)
  · cases he; exact fd_e_lastore (fd_st0 hs)
  · cases he; exact fd_e_lcmp (fd_st0 hs)
  · cases he; exact fd_e_ldiv (fd_st0 hs)
  · cases he; exact fd_e_lmul (fd_st0 hs)
  · cases he; exact fd_e_lneg (fd_st0 hs)
  · cases he; exact fd_e_lor (fd_st0 hs)
  · cases he; exact fd_e_lrem (fd_st0 hs)
  · cases he; exact fd_e_lreturn (fd_st0 hs)
  · cases he; exact fd_e_lshl (fd_st0 hs)
  · cases he; exact fd_e_lshr (fd_st0 hs)
  · cases he; exact fd_e_lsub (fd_st0 hs)
  · cases he; exact fd_e_lushr (fd_st0 hs)
  · cases he; exact fd_e_lxor (fd_st0 hs)
  · cases he; exact fd_e_nop (fd_st0 hs)
  · cases he; exact fd_e_pop (fd_st0 hs)
  · cases he; exact fd_e_pop2 (fd_st0 hs)
  · cases he; exact fd_e_return_ (fd_st0 hs)
  · cases he; exact fd_e_swap (fd_st0 hs)
  · rename_i n
    cases he
    have hn : n = 0 ∨ n = 1 ∨ n = 2 ∨ n = 3 := by have := n.isLt; simp only [Fin.ext_iff]; omega
    rcases hn with rfl | rfl | rfl | rfl
    · exact fd_e_aload_n0 (fd_st0 hs)
    · exact fd_e_aload_n1 (fd_st0 hs)
    · exact fd_e_aload_n2 (fd_st0 hs)
    · exact fd_e_aload_n3 (fd_st0 hs)
  · rename_i n
    cases he
    have hn : n = 0 ∨ n = 1 ∨ n = 2 ∨ n = 3 := by have := n.isLt; simp only [Fin.ext_iff]; omega
    rcases hn with rfl | rfl | rfl | rfl
    · exact fd_e_astore_n0 (fd_st0 hs)
    · exact fd_e_astore_n1 (fd_st0 hs)
    · exact fd_e_astore_n2 (fd_st0 hs)
    · exact fd_e_astore_n3 (fd_st0 hs)
  · rename_i n
    cases he
    have hn : n = 0 ∨ n = 1 ∨ n = 2 ∨ n = 3 := by have := n.isLt; simp only [Fin.ext_iff]; omega
    rcases hn with rfl | rfl | rfl | rfl
    · exact fd_e_iload_n0 (fd_st0 hs)
    · exact fd_e_iload_n1 (fd_st0 hs)
    · exact fd_e_iload_n2 (fd_st0 hs)
    · exact fd_e_iload_n3 (fd_st0 hs)
  · rename_i n
    cases he
    have hn : n = 0 ∨ n = 1 ∨ n = 2 ∨ n = 3 := by have := n.isLt; simp only [Fin.ext_iff]; omega
    rcases hn with rfl | rfl | rfl | rfl
    · exact fd_e_istore_n0 (fd_st0 hs)
    · exact fd_e_istore_n1 (fd_st0 hs)
    · exact fd_e_istore_n2 (fd_st0 hs)
    · exact fd_e_istore_n3 (fd_st0 hs)
  · rename_i n
    cases he
    have hn : n = 0 ∨ n = 1 ∨ n = 2 ∨ n = 3 := by have := n.isLt; simp only [Fin.ext_iff]; omega
    rcases hn with rfl | rfl | rfl | rfl
    · exact fd_e_lload_n0 (fd_st0 hs)
    · exact fd_e_lload_n1 (fd_st0 hs)
    · exact fd_e_lload_n2 (fd_st0 hs)
    · exact fd_e_lload_n3 (fd_st0 hs)
  · rename_i n
    cases he
    have hn : n = 0 ∨ n = 1 ∨ n = 2 ∨ n = 3 := by have := n.isLt; simp only [Fin.ext_iff]; omega
    rcases hn with rfl | rfl | rfl | rfl
    · exact fd_e_lstore_n0 (fd_st0 hs)
    · exact fd_e_lstore_n1 (fd_st0 hs)
    · exact fd_e_lstore_n2 (fd_st0 hs)
    · exact fd_e_lstore_n3 (fd_st0 hs)
  · rename_i n
    cases he
    have hn : n = 0 ∨ n = 1 := by have := n.isLt; simp only [Fin.ext_iff]; omega
    rcases hn with rfl | rfl
    · exact fd_e_lconst0 (fd_st0 hs)
    · exact fd_e_lconst1 (fd_st0 hs)
  · cases he; exact fd_e_aload (fd_st0 hs) (fd_st1 hs)
  · cases he; exact fd_e_astore (fd_st0 hs) (fd_st1 hs)
  · cases he; exact fd_e_iload (fd_st0 hs) (fd_st1 hs)
  · cases he; exact fd_e_istore (fd_st0 hs) (fd_st1 hs)
  · cases he; exact fd_e_lload (fd_st0 hs) (fd_st1 hs)
  · cases he; exact fd_e_lstore (fd_st0 hs) (fd_st1 hs)
  · cases he; exact fd_e_ldc (fd_st0 hs) (fd_st1 hs)
  · cases he; exact (fd_e_anewarray (fd_st0 hs) (fd_st1 hs) (fd_st2 hs)).trans (by rw [fd_dm]; rfl)
  · cases he; exact (fd_e_checkcast (fd_st0 hs) (fd_st1 hs) (fd_st2 hs)).trans (by rw [fd_dm]; rfl)
  · cases he; exact (fd_e_getfield (fd_st0 hs) (fd_st1 hs) (fd_st2 hs)).trans (by rw [fd_dm]; rfl)
  · cases he; exact (fd_e_getstatic (fd_st0 hs) (fd_st1 hs) (fd_st2 hs)).trans (by rw [fd_dm]; rfl)
  · cases he; exact (fd_e_invokespecial (fd_st0 hs) (fd_st1 hs) (fd_st2 hs)).trans (by rw [fd_dm]; rfl)
  · cases he; exact (fd_e_invokestatic (fd_st0 hs) (fd_st1 hs) (fd_st2 hs)).trans (by rw [fd_dm]; rfl)
  · cases he; exact (fd_e_invokevirtual (fd_st0 hs) (fd_st1 hs) (fd_st2 hs)).trans (by rw [fd_dm]; rfl)
  · cases he; exact (fd_e_ldc_w (fd_st0 hs) (fd_st1 hs) (fd_st2 hs)).trans (by rw [fd_dm]; rfl)
  · cases he; exact (fd_e_ldc2_w (fd_st0 hs) (fd_st1 hs) (fd_st2 hs)).trans (by rw [fd_dm]; rfl)
  · cases he; exact (fd_e_new (fd_st0 hs) (fd_st1 hs) (fd_st2 hs)).trans (by rw [fd_dm]; rfl)
  · cases he; exact (fd_e_putfield (fd_st0 hs) (fd_st1 hs) (fd_st2 hs)).trans (by rw [fd_dm]; rfl)
  · cases he; exact (fd_e_putstatic (fd_st0 hs) (fd_st1 hs) (fd_st2 hs)).trans (by rw [fd_dm]; rfl)
  · cases he; exact (fd_e_instanceof (fd_st0 hs) (fd_st1 hs) (fd_st2 hs)).trans (by rw [fd_dm]; rfl)
  · obtain ⟨a, b, rfl, e⟩ := fd_two_ok he; exact e ▸ fd_e_goto (fd_st0 hs) (fd_st1 hs) (fd_st2 hs)
  · obtain ⟨a, b, rfl, e⟩ := fd_two_ok he; exact e ▸ fd_e_ifnonnull (fd_st0 hs) (fd_st1 hs) (fd_st2 hs)
  · obtain ⟨a, b, rfl, e⟩ := fd_two_ok he; exact e ▸ fd_e_ifnull (fd_st0 hs) (fd_st1 hs) (fd_st2 hs)
  · obtain ⟨a, b, rfl, e⟩ := fd_two_ok he; exact e ▸ fd_e_ifCond_eq (fd_st0 hs) (fd_st1 hs) (fd_st2 hs)
  · obtain ⟨a, b, rfl, e⟩ := fd_two_ok he; exact e ▸ fd_e_ifCond_ne (fd_st0 hs) (fd_st1 hs) (fd_st2 hs)
  · obtain ⟨a, b, rfl, e⟩ := fd_two_ok he; exact e ▸ fd_e_ifCond_lt (fd_st0 hs) (fd_st1 hs) (fd_st2 hs)
  · obtain ⟨a, b, rfl, e⟩ := fd_two_ok he; exact e ▸ fd_e_ifCond_ge (fd_st0 hs) (fd_st1 hs) (fd_st2 hs)
  · obtain ⟨a, b, rfl, e⟩ := fd_two_ok he; exact e ▸ fd_e_ifCond_gt (fd_st0 hs) (fd_st1 hs) (fd_st2 hs)
  · obtain ⟨a, b, rfl, e⟩ := fd_two_ok he; exact e ▸ fd_e_ifCond_le (fd_st0 hs) (fd_st1 hs) (fd_st2 hs)
  · obtain ⟨a, b, rfl, e⟩ := fd_two_ok he; exact e ▸ fd_e_if_icmp_eq (fd_st0 hs) (fd_st1 hs) (fd_st2 hs)
  · obtain ⟨a, b, rfl, e⟩ := fd_two_ok he; exact e ▸ fd_e_if_icmp_ne (fd_st0 hs) (fd_st1 hs) (fd_st2 hs)
  · obtain ⟨a, b, rfl, e⟩ := fd_two_ok he; exact e ▸ fd_e_if_icmp_lt (fd_st0 hs) (fd_st1 hs) (fd_st2 hs)
  · obtain ⟨a, b, rfl, e⟩ := fd_two_ok he; exact e ▸ fd_e_if_icmp_ge (fd_st0 hs) (fd_st1 hs) (fd_st2 hs)
  · obtain ⟨a, b, rfl, e⟩ := fd_two_ok he; exact e ▸ fd_e_if_icmp_gt (fd_st0 hs) (fd_st1 hs) (fd_st2 hs)
  · obtain ⟨a, b, rfl, e⟩ := fd_two_ok he; exact e ▸ fd_e_if_icmp_le (fd_st0 hs) (fd_st1 hs) (fd_st2 hs)
  · obtain ⟨a, b, rfl, e⟩ := fd_two_ok he; exact e ▸ fd_e_if_acmp_eq (fd_st0 hs) (fd_st1 hs) (fd_st2 hs)
  · obtain ⟨a, b, rfl, e⟩ := fd_two_ok he; exact e ▸ fd_e_if_acmp_ne (fd_st0 hs) (fd_st1 hs) (fd_st2 hs)
  · cases he; exact fd_e_newarray_boolean (fd_st0 hs) (fd_st1 hs)
  · cases he; exact fd_e_newarray_char (fd_st0 hs) (fd_st1 hs)
  · cases he; exact fd_e_newarray_float (fd_st0 hs) (fd_st1 hs)
  · cases he; exact fd_e_newarray_double (fd_st0 hs) (fd_st1 hs)
  · cases he; exact fd_e_newarray_byte (fd_st0 hs) (fd_st1 hs)
  · cases he; exact fd_e_newarray_short (fd_st0 hs) (fd_st1 hs)
  · cases he; exact fd_e_newarray_int (fd_st0 hs) (fd_st1 hs)
  · cases he; exact fd_e_newarray_long (fd_st0 hs) (fd_st1 hs)
  · obtain ⟨a, rfl, e⟩ := fd_one_ok he; exact e ▸ fd_e_bipush (fd_st0 hs) (fd_st1 hs)
  · obtain ⟨a, b, rfl, e⟩ := fd_two_ok he; exact e ▸ fd_e_sipush (fd_st0 hs) (fd_st1 hs) (fd_st2 hs)
  · split at he
    · rename_i e
      cases he
      exact (fd_e_iinc (fd_st0 hs) (fd_st1 hs) (fd_st2 hs)).trans (by rw [e]; rfl)
    · cases he
  · split at he
    · rename_i x hx
      cases he
      have h7 : x = -1 ∨ x = 0 ∨ x = 1 ∨ x = 2 ∨ x = 3 ∨ x = 4 ∨ x = 5 := by omega
      rcases h7 with rfl | rfl | rfl | rfl | rfl | rfl | rfl
      · exact fd_e_iconst0 (fd_st0 hs)
      · exact fd_e_iconst1 (fd_st0 hs)
      · exact fd_e_iconst2 (fd_st0 hs)
      · exact fd_e_iconst3 (fd_st0 hs)
      · exact fd_e_iconst4 (fd_st0 hs)
      · exact fd_e_iconst5 (fd_st0 hs)
      · exact fd_e_iconst6 (fd_st0 hs)
    · cases he
  · cases he
/-- the bytes in front, taken off -/
def fd_pre : List Nat → List UInt8 → Option (List UInt8)
  | [], bs => some bs
  | _ :: _, [] => none
  | a :: l, b :: bs => if b.toNat = a then fd_pre l bs else none
/-- a method's rows against its bytes, from the front -/
def fd_fw (cc : ByteArray) : List (Nat × Instr × Nat) → List UInt8 → Nat → Bool
  | [], _, _ => true
  | (q, i, n) :: rs, bs, p => Nat.beq q p && (match fd_enc i with
    | some es => Nat.beq es.length n && (match fd_pre es bs with | some r => fd_fw cc rs r (q + n) | none => false)
    | none => (match bs with | [] => false | _ :: _ => decide (decode cc q = .ok (i, n))) && fd_fw cc rs (bs.drop n) (q + n))
theorem fd_pre_ok {cc : ByteArray} : ∀ (es : List Nat) (bs r : List UInt8) (p : Nat), fd_pre es bs = some r → cc.data.toList.drop p = bs → fd_st cc p es ∧ cc.data.toList.drop (p + es.length) = r
  | [], bs, r, p, h, hb => by
    cases h
    exact ⟨fun k v e => (by cases e), hb⟩
  | a :: l, [], r, p, h, hb => by cases h
  | a :: l, b :: bs, r, p, h, hb => by
    unfold fd_pre at h
    split at h
    · rename_i e
      have hlt : p < cc.data.toList.length := by
        have := congrArg List.length hb
        rw [List.length_drop, List.length_cons] at this
        omega
      have h0 := List.drop_eq_getElem_cons hlt
      rw [hb] at h0
      have h1 : b = cc.data.toList[p] := (List.cons.inj h0).1
      have h2 : cc.data.toList.drop (p + 1) = bs := (List.cons.inj h0).2.symm
      obtain ⟨i1, i2⟩ := fd_pre_ok l bs r (p + 1) h h2
      refine ⟨fun k v e2 => ?_, ?_⟩
      · cases k with
        | zero =>
          have e3 : a = v := Option.some.inj e2
          refine ⟨hlt, ?_⟩
          rw [← e3, ← e, h1]
          rfl
        | succ k =>
          have := i1 k v e2
          rw [show p + (k + 1) = p + 1 + k from by omega]
          exact this
      · rw [List.length_cons, show p + (l.length + 1) = p + 1 + l.length from by omega]
        exact i2
    · cases h
theorem fd_fw_ok {cc : ByteArray} : ∀ (rs : List (Nat × Instr × Nat)) (bs : List UInt8) (p : Nat), fd_fw cc rs bs p = true → cc.data.toList.drop p = bs → ∀ r ∈ rs, decode cc r.1 = .ok r.2
  | [], _, _, _, _, _, hr => by cases hr
  | (q, i, n) :: rs, bs, p, h, hb, r, hr => by
    unfold fd_fw at h
    obtain ⟨h1, h2⟩ := Bool.and_eq_true_iff.mp h
    have e : q = p := Nat.eq_of_beq_eq_true h1
    subst e
    split at h2
    · rename_i es he
      obtain ⟨h3, h4⟩ := Bool.and_eq_true_iff.mp h2
      have en : es.length = n := Nat.eq_of_beq_eq_true h3
      split at h4
      · rename_i r2 hp
        obtain ⟨i1, i2⟩ := fd_pre_ok (cc := cc) es bs r2 q hp hb
        rw [en] at i2
        rcases List.mem_cons.mp hr with e2 | e2
        · subst e2
          exact (fd_enc_ok he i1).trans (by rw [en])
        · exact fd_fw_ok rs r2 (q + n) h4 i2 r e2
      · cases h4
    · obtain ⟨h3, h4⟩ := Bool.and_eq_true_iff.mp h2
      rcases List.mem_cons.mp hr with e2 | e2
      · subst e2
        cases bs with
        | nil => cases h3
        | cons b bs =>
          exact of_decide_eq_true h3
      · exact fd_fw_ok rs _ (q + n) h4 (by rw [← hb, List.drop_drop]) r e2
/-- a method's bytes are read as its rows say -/
theorem fd_dec_all {cc : ByteArray} {rs : List (Nat × Instr × Nat)} (h : fd_fw cc rs cc.data.toList 0 = true) : ∀ r ∈ rs, decode cc r.1 = .ok r.2 := fd_fw_ok rs _ 0 h rfl
/-- a method's code among the words, its bytes compared from the front -/
def fd_cd (m : Jvm.MethodName) (b : ByteArray) (n : Nat) (r : Option FieldType) (o : Option Jvm.Cond) : Bool := match o with
  | some (.code m' b' n' r') => decide (m' = m) && (decide (b'.data.toList = b.data.toList) && (decide (n' = n) && decide (r' = r)))
  | _ => false
theorem fd_cd_ok {m : Jvm.MethodName} {b : ByteArray} {n : Nat} {r : Option FieldType} {o : Option Jvm.Cond} (h : fd_cd m b n r o = true) : o = some (.code m b n r) := by
  unfold fd_cd at h
  split at h
  · rename_i m' b' n' r'
    obtain ⟨h1, h2⟩ := Bool.and_eq_true_iff.mp h
    obtain ⟨h2, h3⟩ := Bool.and_eq_true_iff.mp h2
    obtain ⟨h3, h4⟩ := Bool.and_eq_true_iff.mp h3
    have e1 := of_decide_eq_true h1
    have e2 := of_decide_eq_true h2
    have e3 := of_decide_eq_true h3
    have e4 := of_decide_eq_true h4
    have e5 : b' = b := ByteArray.ext (Array.toList_inj.mp e2)
    rw [e1, e5, e3, e4]
  · cases h
/-- a stretch of a method's bytes -/
theorem fd_dec_at {cc : ByteArray} (p : Nat) {rs : List (Nat × Instr × Nat)} (h : fd_fw cc rs (cc.data.toList.drop p) p = true) : ∀ r ∈ rs, decode cc r.1 = .ok r.2 := fd_fw_ok rs _ p h rfl
