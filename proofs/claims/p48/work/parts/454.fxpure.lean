/-! ===== fx: an interpreter of the methods over exact worlds: a reference is the place of its cell ===== -/
abbrev fx_L : Type := List (Nat × Value)
abbrev fx_R : Type := Option (Nat × fx_L × List Value)
def fx_get : fx_L → Nat → Option Value
  | [], _ => none
  | q :: r, i => cond (Nat.beq q.1 i) (some q.2) (fx_get r i)
def fx_kd (v : Value) : Nat := match v with
  | .int _ => 0
  | .long _ => 1
  | .ref _ => 2
  | _ => 3
def fx_f_ld (pc k kd : Nat) (lc : fx_L) (stk : List Value) : fx_R := match fx_get lc k with
  | some v => cond (Nat.beq (fx_kd v) kd) (some (pc, lc, v :: stk)) none
  | none => none
def fx_st1 (lc : fx_L) (i : Nat) (v : Value) : fx_L := (i, v) :: lc.filter (fun q => !(q.1 == i) && !(q.1 + 1 == i && q.2.category == 2))
def fx_st2 (lc : fx_L) (i : Nat) (v : Value) : fx_L := (i, v) :: lc.filter (fun q => !(q.1 == i) && (!(q.1 == i + 1) && !(q.1 + 1 == i && q.2.category == 2)))
def fx_f_st (nL pc i kd : Nat) (lc : fx_L) (stk : List Value) : fx_R := match stk with
  | v :: r => cond (Nat.beq (fx_kd v) kd && Nat.blt i nL) (some (pc, fx_st1 lc i v, r)) none
  | _ => none
def fx_f_st2 (nL pc i : Nat) (lc : fx_L) (stk : List Value) : fx_R := match stk with
  | v :: r => cond (Nat.beq (fx_kd v) 1 && Nat.blt (i + 1) nL) (some (pc, fx_st2 lc i v, r)) none
  | _ => none
def fx_f_inc (nL pc i : Nat) (n : Int) (lc : fx_L) (stk : List Value) : fx_R := match fx_get lc i with
  | some (.int x) => cond (Nat.blt i nL) (some (pc, fx_st1 lc i (.int (x + Int32.ofInt n)), stk)) none
  | _ => none
def fx_bi (f : Int32 → Int32 → Int32) (pc : Nat) (lc : fx_L) (stk : List Value) : fx_R := match stk with
  | .int y :: .int x :: r => some (pc, lc, .int (f x y) :: r)
  | _ => none
def fx_bl (f : Int64 → Int64 → Int64) (pc : Nat) (lc : fx_L) (stk : List Value) : fx_R := match stk with
  | .long y :: .long x :: r => some (pc, lc, .long (f x y) :: r)
  | _ => none
def fx_bz (f : Int32 → Int32 → Int32) (pc : Nat) (lc : fx_L) (stk : List Value) : fx_R := match stk with
  | .int y :: .int x :: r => if y = 0 then none else some (pc, lc, .int (f x y) :: r)
  | _ => none
def fx_blz (f : Int64 → Int64 → Int64) (pc : Nat) (lc : fx_L) (stk : List Value) : fx_R := match stk with
  | .long y :: .long x :: r => if y = 0 then none else some (pc, lc, .long (f x y) :: r)
  | _ => none
def fx_sh (f : Int64 → Int32 → Int64) (pc : Nat) (lc : fx_L) (stk : List Value) : fx_R := match stk with
  | .int y :: .long x :: r => some (pc, lc, .long (f x y) :: r)
  | _ => none
def fx_ui (f : Int32 → Value) (pc : Nat) (lc : fx_L) (stk : List Value) : fx_R := match stk with
  | .int x :: r => some (pc, lc, f x :: r)
  | _ => none
def fx_ul (f : Int64 → Value) (pc : Nat) (lc : fx_L) (stk : List Value) : fx_R := match stk with
  | .long x :: r => some (pc, lc, f x :: r)
  | _ => none
def fx_dup (pc : Nat) (lc : fx_L) (stk : List Value) : fx_R := match stk with
  | v :: r => cond (Nat.beq v.category 1) (some (pc, lc, v :: v :: r)) none
  | _ => none
def fx_dup2 (pc : Nat) (lc : fx_L) (stk : List Value) : fx_R := match stk with
  | a :: b :: r => cond (Nat.beq a.category 1 && Nat.beq b.category 1) (some (pc, lc, a :: b :: a :: b :: r)) (cond (Nat.beq a.category 2) (some (pc, lc, a :: a :: b :: r)) none)
  | _ => none
def fx_pop (pc k : Nat) (lc : fx_L) (stk : List Value) : fx_R := match stk with
  | v :: r => cond (Nat.beq v.category k) (some (pc, lc, r)) none
  | _ => none
def fx_cmp (c : ClassFile.Cond) (x y : Int32) : Prop := match c with
  | .eq => x = y
  | .ne => ¬ x = y
  | .lt => x < y
  | .ge => y ≤ x
  | .gt => y < x
  | .le => x ≤ y
def fx_cb (c : ClassFile.Cond) (x y : Int32) : Bool := match c with
  | .eq => decide (x = y)
  | .ne => !decide (x = y)
  | .lt => decide (x < y)
  | .ge => decide (y ≤ x)
  | .gt => decide (y < x)
  | .le => decide (x ≤ y)
def fx_to (pc : Nat) (off : Int) : Nat := ((pc : Int) + off).toNat
def fx_if (c : ClassFile.Cond) (pc : Nat) (off : Int) (lc : fx_L) (stk : List Value) : fx_R := match stk with
  | .int y :: .int x :: r => cond (decide (0 ≤ (pc : Int) + off)) (some (cond (fx_cb c x y) (fx_to pc off) (pc + 3), lc, r)) none
  | _ => none
def fx_if0 (c : ClassFile.Cond) (pc : Nat) (off : Int) (lc : fx_L) (stk : List Value) : fx_R := match stk with
  | .int x :: r => cond (decide (0 ≤ (pc : Int) + off)) (some (cond (fx_cb c x 0) (fx_to pc off) (pc + 3), lc, r)) none
  | _ => none
def fx_goto (pc : Nat) (off : Int) (lc : fx_L) (stk : List Value) : fx_R := cond (decide (0 ≤ (pc : Int) + off)) (some (fx_to pc off, lc, stk)) none
def fx_lcmp (pc : Nat) (lc : fx_L) (stk : List Value) : fx_R := match stk with
  | .long y :: .long x :: r => some (pc, lc, .int (lg_cmp x y) :: r)
  | _ => none
def fx_push (pc : Nat) (v : Value) (lc : fx_L) (stk : List Value) : fx_R := some (pc, lc, v :: stk)
def fx_pure (nL pc : Nat) (ins : Instr) : fx_L → List Value → fx_R := match ins with
  | .iconst n => fx_push (pc + 1) (.int (Int32.ofInt n))
  | .bipush n => fx_push (pc + 2) (.int (Int8.ofInt n).toInt32)
  | .sipush n => fx_push (pc + 3) (.int (Int16.ofInt n).toInt32)
  | .lconst n => fx_push (pc + 1) (.long (Int64.ofNat (n : Nat)))
  | .iload_n k => fx_f_ld (pc + 1) k 0
  | .iload k => fx_f_ld (pc + 2) k 0
  | .lload_n k => fx_f_ld (pc + 1) k 1
  | .lload k => fx_f_ld (pc + 2) k 1
  | .aload_n k => fx_f_ld (pc + 1) k 2
  | .aload k => fx_f_ld (pc + 2) k 2
  | .istore_n k => fx_f_st nL (pc + 1) k 0
  | .istore k => fx_f_st nL (pc + 2) k 0
  | .astore_n k => fx_f_st nL (pc + 1) k 2
  | .astore k => fx_f_st nL (pc + 2) k 2
  | .lstore_n k => fx_f_st2 nL (pc + 1) k
  | .lstore k => fx_f_st2 nL (pc + 2) k
  | .iinc i n => fx_f_inc nL (pc + 3) i n
  | .dup => fx_dup (pc + 1)
  | .dup2 => fx_dup2 (pc + 1)
  | .pop => fx_pop (pc + 1) 1
  | .pop2 => fx_pop (pc + 1) 2
  | .iadd => fx_bi (fun x y => x + y) (pc + 1)
  | .isub => fx_bi (fun x y => x - y) (pc + 1)
  | .imul => fx_bi (fun x y => x * y) (pc + 1)
  | .iand => fx_bi (fun x y => x &&& y) (pc + 1)
  | .ior => fx_bi (fun x y => x ||| y) (pc + 1)
  | .ixor => fx_bi (fun x y => x ^^^ y) (pc + 1)
  | .ishl => fx_bi (fun x y => x <<< (y &&& 31)) (pc + 1)
  | .ishr => fx_bi (fun x y => x >>> (y &&& 31)) (pc + 1)
  | .iushr => fx_bi (fun x y => (x.toUInt32 >>> (y.toUInt32 &&& Int32.toUInt32 31)).toInt32) (pc + 1)
  | .idiv => fx_bz (fun x y => x / y) (pc + 1)
  | .irem => fx_bz (fun x y => x - x / y * y) (pc + 1)
  | .ladd => fx_bl (fun x y => x + y) (pc + 1)
  | .lsub => fx_bl (fun x y => x - y) (pc + 1)
  | .lmul => fx_bl (fun x y => x * y) (pc + 1)
  | .land => fx_bl (fun x y => x &&& y) (pc + 1)
  | .lor => fx_bl (fun x y => x ||| y) (pc + 1)
  | .lxor => fx_bl (fun x y => x ^^^ y) (pc + 1)
  | .ldiv => fx_blz (fun x y => x / y) (pc + 1)
  | .lrem => fx_blz (fun x y => x - x / y * y) (pc + 1)
  | .lshl => fx_sh (fun x y => x <<< (y.toInt64 &&& 63)) (pc + 1)
  | .lshr => fx_sh (fun x y => x >>> (y.toInt64 &&& 63)) (pc + 1)
  | .lushr => fx_sh (fun x y => (x.toUInt64 >>> (y.toInt64.toUInt64 &&& Int64.toUInt64 63)).toInt64) (pc + 1)
  | .ineg => fx_ui (fun x => .int (-x)) (pc + 1)
  | .i2b => fx_ui (fun x => .int (x.toInt8.toInt32)) (pc + 1)
  | .i2s => fx_ui (fun x => .int (x.toInt16.toInt32)) (pc + 1)
  | .i2l => fx_ui (fun x => .long x.toInt64) (pc + 1)
  | .l2i => fx_ul (fun x => .int x.toInt32) (pc + 1)
  | .lcmp => fx_lcmp (pc + 1)
  | .ifCond cd off => fx_if0 cd pc off
  | .if_icmp cd off => fx_if cd pc off
  | .goto off => fx_goto pc off
  | _ => fun _ _ => none
def fx_ad (ps : List (Nat × ClassId)) (j : Nat) : Nat := match ps[j]? with
  | some q => q.1
  | none => 0
def fx_v (ps : List (Nat × ClassId)) (v : Value) : Value := match v with
  | .ref j => .ref (fx_ad ps j)
  | v => v
theorem fx_v_cat (ps : List (Nat × ClassId)) (v : Value) : (fx_v ps v).category = v.category := by cases v <;> rfl
theorem fx_v_kd {ps : List (Nat × ClassId)} {v : Value} : (fx_kd v = 0 → ∃ x, v = .int x) ∧ (fx_kd v = 1 → ∃ x, v = .long x) ∧ (fx_kd v = 2 → ∃ x, v = .ref x) := by
  cases v <;> simp [fx_kd]
abbrev fx_lm (ps : List (Nat × ClassId)) (lc : fx_L) : List (Nat × Value) := lc.map (fun q => (q.1, fx_v ps q.2))
theorem fx_get_ok {ps : List (Nat × ClassId)} {k : Nat} {v : Value} : ∀ {lc : fx_L}, fx_get lc k = some v → (k, fx_v ps v) ∈ fx_lm ps lc := by
  intro lc
  induction lc with
  | nil => intro h; cases h
  | cons q r ih =>
    intro h
    unfold fx_get at h
    cases hb : Nat.beq q.1 k with
    | true =>
      rw [hb] at h
      obtain rfl := Option.some.inj (show some q.2 = some v from h)
      obtain rfl := Nat.eq_of_beq_eq_true hb
      exact List.mem_cons_self
    | false =>
      rw [hb] at h
      exact List.mem_cons_of_mem _ (ih h)
theorem fx_st1_lm (ps : List (Nat × ClassId)) (lc : fx_L) (i : Nat) (v : Value) : fx_lm ps (fx_st1 lc i v) = (i, fx_v ps v) :: (fx_lm ps lc).filter (fun q => !(q.1 == i) && !(q.1 + 1 == i && q.2.category == 2)) := by
  show (i, fx_v ps v) :: (lc.filter _).map _ = _
  congr 1
  rw [List.filter_map]
  congr 1
  apply List.filter_congr
  intro q _
  show _ = (!(q.1 == i) && !(q.1 + 1 == i && (fx_v ps q.2).category == 2))
  rw [fx_v_cat]
theorem fx_st2_lm (ps : List (Nat × ClassId)) (lc : fx_L) (i : Nat) (v : Value) : fx_lm ps (fx_st2 lc i v) = (i, fx_v ps v) :: (fx_lm ps lc).filter (fun q => !(q.1 == i) && (!(q.1 == i + 1) && !(q.1 + 1 == i && q.2.category == 2))) := by
  show (i, fx_v ps v) :: (lc.filter _).map _ = _
  congr 1
  rw [List.filter_map]
  congr 1
  apply List.filter_congr
  intro q _
  show _ = (!(q.1 == i) && (!(q.1 == i + 1) && !(q.1 + 1 == i && (fx_v ps q.2).category == 2)))
  rw [fx_v_cat]
theorem fx_if_inv {b : Bool} {α : Type} {x y : α} (h : cond b (some x) none = some y) : b = true ∧ x = y := by
  cases b with
  | true => exact ⟨rfl, Option.some.inj h⟩
  | false => cases h
section FXP
variable {p : Program} {l : Launch} {e : Env} {R : Room} {s : State} {m : MethodId} {args : Array Value} {below : List Frame} {meth : Method} {c : Code} {Q : State → Prop} {cc : ByteArray}
set_option maxHeartbeats 8000000 in
theorem fx_pure_ok (ps : List (Nat × ClassId)) (hx : p.tables.exec = Jvm.exec) (hb : c.code = cc) {nL pc : Nat} {ins : Instr} {len : Nat} (hdg : decode cc pc = .ok (ins, len)) (hlen : rk_len ins len = true) {lc : fx_L} {stk : List Value} {zz : Nat × fx_L × List Value} (h : fx_pure nL pc ins lc stk = some zz) {H : Heap} {locs : List Loc} {ls : Array Slot} (hl : lv_has ls nL (fx_lm ps lc)) (kk : ∀ ls' : Array Slot, lv_has ls' nL (fx_lm ps zz.2.1) → rk_KW p l e R s m args below meth c Q zz.1 ls' (zz.2.2.map (fx_v ps)) H locs 0 0) : rk_KW p l e R s m args below meth c Q pc ls (stk.map (fx_v ps)) H locs 0 0 := by
  cases ins
  case iconst n =>
    simp [rk_len] at hlen; subst hlen
    change fx_push (pc + 1) (.int (Int32.ofInt n)) lc stk = some zz at h
    obtain rfl := Option.some.inj h
    refine lv_iconst (v := Int32.ofInt n) hx hb hdg rfl ?_
    exact kk ls hl
  case bipush n =>
    simp [rk_len] at hlen; subst hlen
    change fx_push (pc + 2) (.int (Int8.ofInt n).toInt32) lc stk = some zz at h
    obtain rfl := Option.some.inj h
    refine lv_bipush (v := (Int8.ofInt n).toInt32) hx hb hdg rfl ?_
    exact kk ls hl
  case sipush n =>
    simp [rk_len] at hlen; subst hlen
    change fx_push (pc + 3) (.int (Int16.ofInt n).toInt32) lc stk = some zz at h
    obtain rfl := Option.some.inj h
    refine lv_sipush (v := (Int16.ofInt n).toInt32) hx hb hdg rfl ?_
    exact kk ls hl
  case lconst n =>
    simp [rk_len] at hlen; subst hlen
    change fx_push (pc + 1) (.long (Int64.ofNat (n : Nat))) lc stk = some zz at h
    obtain rfl := Option.some.inj h
    refine lv_lconst (v := Int64.ofNat (n : Nat)) hx hb hdg rfl ?_
    exact kk ls hl
  case iload_n k =>
    simp [rk_len] at hlen; subst hlen
    change fx_f_ld (pc + 1) k 0 lc stk = some zz at h
    unfold fx_f_ld at h
    split at h
    · next v hv0 =>
      obtain ⟨hk, rfl⟩ := fx_if_inv h
      obtain ⟨x, rfl⟩ := (fx_v_kd (ps := ps) (v := v)).1 (Nat.eq_of_beq_eq_true hk)
      have hv := fx_get_ok (ps := ps) hv0
      refine lv_iload_n hx hb hdg rfl (hl.2.2 _ hv) ?_
      exact kk ls hl
    · cases h
  case iload k =>
    simp [rk_len] at hlen; subst hlen
    change fx_f_ld (pc + 2) k 0 lc stk = some zz at h
    unfold fx_f_ld at h
    split at h
    · next v hv0 =>
      obtain ⟨hk, rfl⟩ := fx_if_inv h
      obtain ⟨x, rfl⟩ := (fx_v_kd (ps := ps) (v := v)).1 (Nat.eq_of_beq_eq_true hk)
      have hv := fx_get_ok (ps := ps) hv0
      refine lv_iload hx hb hdg (hl.2.2 _ hv) ?_
      exact kk ls hl
    · cases h
  case lload_n k =>
    simp [rk_len] at hlen; subst hlen
    change fx_f_ld (pc + 1) k 1 lc stk = some zz at h
    unfold fx_f_ld at h
    split at h
    · next v hv0 =>
      obtain ⟨hk, rfl⟩ := fx_if_inv h
      obtain ⟨x, rfl⟩ := (fx_v_kd (ps := ps) (v := v)).2.1 (Nat.eq_of_beq_eq_true hk)
      have hv := fx_get_ok (ps := ps) hv0
      refine lv_lload_n hx hb hdg rfl (hl.2.2 _ hv) ?_
      exact kk ls hl
    · cases h
  case lload k =>
    simp [rk_len] at hlen; subst hlen
    change fx_f_ld (pc + 2) k 1 lc stk = some zz at h
    unfold fx_f_ld at h
    split at h
    · next v hv0 =>
      obtain ⟨hk, rfl⟩ := fx_if_inv h
      obtain ⟨x, rfl⟩ := (fx_v_kd (ps := ps) (v := v)).2.1 (Nat.eq_of_beq_eq_true hk)
      have hv := fx_get_ok (ps := ps) hv0
      refine lv_lload hx hb hdg (hl.2.2 _ hv) ?_
      exact kk ls hl
    · cases h
  case aload_n k =>
    simp [rk_len] at hlen; subst hlen
    change fx_f_ld (pc + 1) k 2 lc stk = some zz at h
    unfold fx_f_ld at h
    split at h
    · next v hv0 =>
      obtain ⟨hk, rfl⟩ := fx_if_inv h
      obtain ⟨x, rfl⟩ := (fx_v_kd (ps := ps) (v := v)).2.2 (Nat.eq_of_beq_eq_true hk)
      have hv := fx_get_ok (ps := ps) hv0
      refine lv_aload_n hx hb hdg rfl (hl.2.2 _ hv) ?_
      exact kk ls hl
    · cases h
  case aload k =>
    simp [rk_len] at hlen; subst hlen
    change fx_f_ld (pc + 2) k 2 lc stk = some zz at h
    unfold fx_f_ld at h
    split at h
    · next v hv0 =>
      obtain ⟨hk, rfl⟩ := fx_if_inv h
      obtain ⟨x, rfl⟩ := (fx_v_kd (ps := ps) (v := v)).2.2 (Nat.eq_of_beq_eq_true hk)
      have hv := fx_get_ok (ps := ps) hv0
      refine lv_aload hx hb hdg (hl.2.2 _ hv) ?_
      exact kk ls hl
    · cases h
  case istore_n k =>
    simp [rk_len] at hlen; subst hlen
    change fx_f_st nL (pc + 1) k 0 lc stk = some zz at h
    unfold fx_f_st at h
    split at h
    · next v r =>
      obtain ⟨hk0, rfl⟩ := fx_if_inv h
      rw [Bool.and_eq_true] at hk0
      obtain ⟨x, rfl⟩ := (fx_v_kd (ps := ps) (v := v)).1 (Nat.eq_of_beq_eq_true hk0.1)
      have hk : k < nL := Nat.le_of_ble_eq_true hk0.2
      refine lv_istore_n hx hb hdg rfl hl hk rfl (fun ls' hl' => ?_)
      exact kk ls' (by rw [fx_st1_lm]; exact hl')
    · cases h
  case istore k =>
    simp [rk_len] at hlen; subst hlen
    change fx_f_st nL (pc + 2) k 0 lc stk = some zz at h
    unfold fx_f_st at h
    split at h
    · next v r =>
      obtain ⟨hk0, rfl⟩ := fx_if_inv h
      rw [Bool.and_eq_true] at hk0
      obtain ⟨x, rfl⟩ := (fx_v_kd (ps := ps) (v := v)).1 (Nat.eq_of_beq_eq_true hk0.1)
      have hk : k < nL := Nat.le_of_ble_eq_true hk0.2
      refine lv_istore hx hb hdg hl hk rfl (fun ls' hl' => ?_)
      exact kk ls' (by rw [fx_st1_lm]; exact hl')
    · cases h
  case astore_n k =>
    simp [rk_len] at hlen; subst hlen
    change fx_f_st nL (pc + 1) k 2 lc stk = some zz at h
    unfold fx_f_st at h
    split at h
    · next v r =>
      obtain ⟨hk0, rfl⟩ := fx_if_inv h
      rw [Bool.and_eq_true] at hk0
      obtain ⟨x, rfl⟩ := (fx_v_kd (ps := ps) (v := v)).2.2 (Nat.eq_of_beq_eq_true hk0.1)
      have hk : k < nL := Nat.le_of_ble_eq_true hk0.2
      refine lv_astore_n hx hb hdg rfl hl hk rfl (fun ls' hl' => ?_)
      exact kk ls' (by rw [fx_st1_lm]; exact hl')
    · cases h
  case astore k =>
    simp [rk_len] at hlen; subst hlen
    change fx_f_st nL (pc + 2) k 2 lc stk = some zz at h
    unfold fx_f_st at h
    split at h
    · next v r =>
      obtain ⟨hk0, rfl⟩ := fx_if_inv h
      rw [Bool.and_eq_true] at hk0
      obtain ⟨x, rfl⟩ := (fx_v_kd (ps := ps) (v := v)).2.2 (Nat.eq_of_beq_eq_true hk0.1)
      have hk : k < nL := Nat.le_of_ble_eq_true hk0.2
      refine lv_astore hx hb hdg hl hk rfl (fun ls' hl' => ?_)
      exact kk ls' (by rw [fx_st1_lm]; exact hl')
    · cases h
  case lstore_n k =>
    simp [rk_len] at hlen; subst hlen
    change fx_f_st2 nL (pc + 1) k lc stk = some zz at h
    unfold fx_f_st2 at h
    split at h
    · next v r =>
      obtain ⟨hk0, rfl⟩ := fx_if_inv h
      rw [Bool.and_eq_true] at hk0
      obtain ⟨x, rfl⟩ := (fx_v_kd (ps := ps) (v := v)).2.1 (Nat.eq_of_beq_eq_true hk0.1)
      have hk : k + 1 < nL := Nat.le_of_ble_eq_true hk0.2
      refine lv_lstore_n hx hb hdg rfl hl hk rfl (fun ls' hl' => ?_)
      exact kk ls' (by rw [fx_st2_lm]; exact hl')
    · cases h
  case lstore k =>
    simp [rk_len] at hlen; subst hlen
    change fx_f_st2 nL (pc + 2) k lc stk = some zz at h
    unfold fx_f_st2 at h
    split at h
    · next v r =>
      obtain ⟨hk0, rfl⟩ := fx_if_inv h
      rw [Bool.and_eq_true] at hk0
      obtain ⟨x, rfl⟩ := (fx_v_kd (ps := ps) (v := v)).2.1 (Nat.eq_of_beq_eq_true hk0.1)
      have hk : k + 1 < nL := Nat.le_of_ble_eq_true hk0.2
      refine lv_lstore hx hb hdg hl hk rfl (fun ls' hl' => ?_)
      exact kk ls' (by rw [fx_st2_lm]; exact hl')
    · cases h
  case iinc i n =>
    simp [rk_len] at hlen; subst hlen
    change fx_f_inc nL (pc + 3) i n lc stk = some zz at h
    unfold fx_f_inc at h
    split at h
    · next x hv0 =>
      obtain ⟨hk0, rfl⟩ := fx_if_inv h
      have hk : i < nL := Nat.le_of_ble_eq_true hk0
      obtain ⟨kq, hkq⟩ := List.getElem?_of_mem (fx_get_ok (ps := ps) hv0)
      refine lv_iinc hx hb hdg hl hkq rfl hk rfl (fun ls' hl' => ?_)
      exact kk ls' (by rw [fx_st1_lm]; exact hl')
    · cases h
  case dup =>
    simp [rk_len] at hlen; subst hlen
    change fx_dup (pc + 1) lc stk = some zz at h
    unfold fx_dup at h
    split at h
    · next v r =>
      obtain ⟨hk, rfl⟩ := fx_if_inv h
      refine lv_dup hx hb hdg (by rw [fx_v_cat]; exact Nat.eq_of_beq_eq_true hk) ?_
      exact kk ls hl
    · cases h
  case dup2 =>
    simp [rk_len] at hlen; subst hlen
    change fx_dup2 (pc + 1) lc stk = some zz at h
    unfold fx_dup2 at h
    split at h
    · next a b r =>
      cases hb1 : (Nat.beq a.category 1 && Nat.beq b.category 1) with
      | true =>
        rw [hb1] at h
        obtain rfl := Option.some.inj h
        rw [Bool.and_eq_true] at hb1
        refine lv_dup2_11 hx hb hdg (by rw [fx_v_cat]; exact Nat.eq_of_beq_eq_true hb1.1) (by rw [fx_v_cat]; exact Nat.eq_of_beq_eq_true hb1.2) ?_
        exact kk ls hl
      | false =>
        rw [hb1] at h
        obtain ⟨hk, rfl⟩ := fx_if_inv (show cond (Nat.beq a.category 2) (some _) none = some zz from h)
        refine lv_dup2_2 hx hb hdg (by rw [fx_v_cat]; exact Nat.eq_of_beq_eq_true hk) ?_
        exact kk ls hl
    · cases h
  case pop =>
    simp [rk_len] at hlen; subst hlen
    change fx_pop (pc + 1) 1 lc stk = some zz at h
    unfold fx_pop at h
    split at h
    · next v r =>
      obtain ⟨hk, rfl⟩ := fx_if_inv h
      refine lv_pop hx hb hdg (by rw [fx_v_cat]; exact Nat.eq_of_beq_eq_true hk) ?_
      exact kk ls hl
    · cases h
  case pop2 =>
    simp [rk_len] at hlen; subst hlen
    change fx_pop (pc + 1) 2 lc stk = some zz at h
    unfold fx_pop at h
    split at h
    · next v r =>
      obtain ⟨hk, rfl⟩ := fx_if_inv h
      refine lv_pop2_2 hx hb hdg (by rw [fx_v_cat]; exact Nat.eq_of_beq_eq_true hk) ?_
      exact kk ls hl
    · cases h
  case iadd =>
    simp [rk_len] at hlen; subst hlen
    change fx_bi (fun x y => x + y) (pc + 1) lc stk = some zz at h
    unfold fx_bi at h
    split at h
    · next y x r =>
      obtain rfl := Option.some.inj h
      refine lv_iadd hx hb hdg  ?_
      exact kk ls hl
    · cases h
  case isub =>
    simp [rk_len] at hlen; subst hlen
    change fx_bi (fun x y => x - y) (pc + 1) lc stk = some zz at h
    unfold fx_bi at h
    split at h
    · next y x r =>
      obtain rfl := Option.some.inj h
      refine lv_isub hx hb hdg  ?_
      exact kk ls hl
    · cases h
  case imul =>
    simp [rk_len] at hlen; subst hlen
    change fx_bi (fun x y => x * y) (pc + 1) lc stk = some zz at h
    unfold fx_bi at h
    split at h
    · next y x r =>
      obtain rfl := Option.some.inj h
      refine lv_imul hx hb hdg  ?_
      exact kk ls hl
    · cases h
  case iand =>
    simp [rk_len] at hlen; subst hlen
    change fx_bi (fun x y => x &&& y) (pc + 1) lc stk = some zz at h
    unfold fx_bi at h
    split at h
    · next y x r =>
      obtain rfl := Option.some.inj h
      refine lv_iand hx hb hdg  ?_
      exact kk ls hl
    · cases h
  case ior =>
    simp [rk_len] at hlen; subst hlen
    change fx_bi (fun x y => x ||| y) (pc + 1) lc stk = some zz at h
    unfold fx_bi at h
    split at h
    · next y x r =>
      obtain rfl := Option.some.inj h
      refine lv_ior hx hb hdg  ?_
      exact kk ls hl
    · cases h
  case ixor =>
    simp [rk_len] at hlen; subst hlen
    change fx_bi (fun x y => x ^^^ y) (pc + 1) lc stk = some zz at h
    unfold fx_bi at h
    split at h
    · next y x r =>
      obtain rfl := Option.some.inj h
      refine lv_ixor hx hb hdg  ?_
      exact kk ls hl
    · cases h
  case ishl =>
    simp [rk_len] at hlen; subst hlen
    change fx_bi (fun x y => x <<< (y &&& 31)) (pc + 1) lc stk = some zz at h
    unfold fx_bi at h
    split at h
    · next y x r =>
      obtain rfl := Option.some.inj h
      refine lv_ishl hx hb hdg  ?_
      exact kk ls hl
    · cases h
  case ishr =>
    simp [rk_len] at hlen; subst hlen
    change fx_bi (fun x y => x >>> (y &&& 31)) (pc + 1) lc stk = some zz at h
    unfold fx_bi at h
    split at h
    · next y x r =>
      obtain rfl := Option.some.inj h
      refine lv_ishr hx hb hdg  ?_
      exact kk ls hl
    · cases h
  case iushr =>
    simp [rk_len] at hlen; subst hlen
    change fx_bi (fun x y => (x.toUInt32 >>> (y.toUInt32 &&& Int32.toUInt32 31)).toInt32) (pc + 1) lc stk = some zz at h
    unfold fx_bi at h
    split at h
    · next y x r =>
      obtain rfl := Option.some.inj h
      refine lv_iushr hx hb hdg rfl ?_
      exact kk ls hl
    · cases h
  case idiv =>
    simp [rk_len] at hlen; subst hlen
    change fx_bz (fun x y => x / y) (pc + 1) lc stk = some zz at h
    unfold fx_bz at h
    split at h
    · next y x r =>
      split at h
      · cases h
      · next hne =>
        obtain rfl := Option.some.inj h
        refine lv_idiv hx hb hdg hne ?_
        exact kk ls hl
    · cases h
  case irem =>
    simp [rk_len] at hlen; subst hlen
    change fx_bz (fun x y => x - x / y * y) (pc + 1) lc stk = some zz at h
    unfold fx_bz at h
    split at h
    · next y x r =>
      split at h
      · cases h
      · next hne =>
        obtain rfl := Option.some.inj h
        refine lv_irem hx hb hdg hne ?_
        exact kk ls hl
    · cases h
  case ladd =>
    simp [rk_len] at hlen; subst hlen
    change fx_bl (fun x y => x + y) (pc + 1) lc stk = some zz at h
    unfold fx_bl at h
    split at h
    · next y x r =>
      obtain rfl := Option.some.inj h
      refine lv_ladd hx hb hdg  ?_
      exact kk ls hl
    · cases h
  case lsub =>
    simp [rk_len] at hlen; subst hlen
    change fx_bl (fun x y => x - y) (pc + 1) lc stk = some zz at h
    unfold fx_bl at h
    split at h
    · next y x r =>
      obtain rfl := Option.some.inj h
      refine lv_lsub hx hb hdg  ?_
      exact kk ls hl
    · cases h
  case lmul =>
    simp [rk_len] at hlen; subst hlen
    change fx_bl (fun x y => x * y) (pc + 1) lc stk = some zz at h
    unfold fx_bl at h
    split at h
    · next y x r =>
      obtain rfl := Option.some.inj h
      refine lv_lmul hx hb hdg  ?_
      exact kk ls hl
    · cases h
  case land =>
    simp [rk_len] at hlen; subst hlen
    change fx_bl (fun x y => x &&& y) (pc + 1) lc stk = some zz at h
    unfold fx_bl at h
    split at h
    · next y x r =>
      obtain rfl := Option.some.inj h
      refine lv_land hx hb hdg  ?_
      exact kk ls hl
    · cases h
  case lor =>
    simp [rk_len] at hlen; subst hlen
    change fx_bl (fun x y => x ||| y) (pc + 1) lc stk = some zz at h
    unfold fx_bl at h
    split at h
    · next y x r =>
      obtain rfl := Option.some.inj h
      refine lv_lor hx hb hdg  ?_
      exact kk ls hl
    · cases h
  case lxor =>
    simp [rk_len] at hlen; subst hlen
    change fx_bl (fun x y => x ^^^ y) (pc + 1) lc stk = some zz at h
    unfold fx_bl at h
    split at h
    · next y x r =>
      obtain rfl := Option.some.inj h
      refine lv_lxor hx hb hdg  ?_
      exact kk ls hl
    · cases h
  case ldiv =>
    simp [rk_len] at hlen; subst hlen
    change fx_blz (fun x y => x / y) (pc + 1) lc stk = some zz at h
    unfold fx_blz at h
    split at h
    · next y x r =>
      split at h
      · cases h
      · next hne =>
        obtain rfl := Option.some.inj h
        refine lv_ldiv hx hb hdg hne ?_
        exact kk ls hl
    · cases h
  case lrem =>
    simp [rk_len] at hlen; subst hlen
    change fx_blz (fun x y => x - x / y * y) (pc + 1) lc stk = some zz at h
    unfold fx_blz at h
    split at h
    · next y x r =>
      split at h
      · cases h
      · next hne =>
        obtain rfl := Option.some.inj h
        refine lv_lrem hx hb hdg hne ?_
        exact kk ls hl
    · cases h
  case lshl =>
    simp [rk_len] at hlen; subst hlen
    change fx_sh (fun x y => x <<< (y.toInt64 &&& 63)) (pc + 1) lc stk = some zz at h
    unfold fx_sh at h
    split at h
    · next y x r =>
      obtain rfl := Option.some.inj h
      refine lv_lshl hx hb hdg rfl ?_
      exact kk ls hl
    · cases h
  case lshr =>
    simp [rk_len] at hlen; subst hlen
    change fx_sh (fun x y => x >>> (y.toInt64 &&& 63)) (pc + 1) lc stk = some zz at h
    unfold fx_sh at h
    split at h
    · next y x r =>
      obtain rfl := Option.some.inj h
      refine lv_lshr hx hb hdg rfl ?_
      exact kk ls hl
    · cases h
  case lushr =>
    simp [rk_len] at hlen; subst hlen
    change fx_sh (fun x y => (x.toUInt64 >>> (y.toInt64.toUInt64 &&& Int64.toUInt64 63)).toInt64) (pc + 1) lc stk = some zz at h
    unfold fx_sh at h
    split at h
    · next y x r =>
      obtain rfl := Option.some.inj h
      refine lv_lushr hx hb hdg rfl ?_
      exact kk ls hl
    · cases h
  case ineg =>
    simp [rk_len] at hlen; subst hlen
    change fx_ui (fun x => .int (-x)) (pc + 1) lc stk = some zz at h
    unfold fx_ui at h
    split at h
    · next x r =>
      obtain rfl := Option.some.inj h
      refine lv_ineg hx hb hdg  ?_
      exact kk ls hl
    · cases h
  case i2b =>
    simp [rk_len] at hlen; subst hlen
    change fx_ui (fun x => .int (x.toInt8.toInt32)) (pc + 1) lc stk = some zz at h
    unfold fx_ui at h
    split at h
    · next x r =>
      obtain rfl := Option.some.inj h
      refine lv_i2b hx hb hdg rfl ?_
      exact kk ls hl
    · cases h
  case i2s =>
    simp [rk_len] at hlen; subst hlen
    change fx_ui (fun x => .int (x.toInt16.toInt32)) (pc + 1) lc stk = some zz at h
    unfold fx_ui at h
    split at h
    · next x r =>
      obtain rfl := Option.some.inj h
      refine lv_i2s hx hb hdg rfl ?_
      exact kk ls hl
    · cases h
  case i2l =>
    simp [rk_len] at hlen; subst hlen
    change fx_ui (fun x => .long x.toInt64) (pc + 1) lc stk = some zz at h
    unfold fx_ui at h
    split at h
    · next x r =>
      obtain rfl := Option.some.inj h
      refine lv_i2l hx hb hdg rfl ?_
      exact kk ls hl
    · cases h
  case l2i =>
    simp [rk_len] at hlen; subst hlen
    change fx_ul (fun x => .int x.toInt32) (pc + 1) lc stk = some zz at h
    unfold fx_ul at h
    split at h
    · next x r =>
      obtain rfl := Option.some.inj h
      refine lv_l2i hx hb hdg rfl ?_
      exact kk ls hl
    · cases h
  case lcmp =>
    simp [rk_len] at hlen; subst hlen
    change fx_lcmp (pc + 1) lc stk = some zz at h
    unfold fx_lcmp at h
    split at h
    · next y x r =>
      obtain rfl := Option.some.inj h
      refine W.lcmp hx hb hdg ?_
      exact kk ls hl
    · cases h
  case ifCond cd off =>
    simp [rk_len] at hlen; subst hlen
    change fx_if0 cd pc off lc stk = some zz at h
    unfold fx_if0 at h
    split at h
    · next x r =>
      obtain ⟨hpos, rfl⟩ := fx_if_inv h
      have hpos := of_decide_eq_true hpos
      have ht : (pc : Int) + off = ((((pc : Int) + off).toNat : Nat) : Int) := by omega
      have k1 : fx_cb cd x 0 = true → rk_KW p l e R s m args below meth c Q (fx_to pc off) ls (r.map (fx_v ps)) H locs 0 0 := fun q => by
        have := kk ls hl
        rw [q] at this
        exact this
      have k2 : fx_cb cd x 0 = false → rk_KW p l e R s m args below meth c Q (pc + 3) ls (r.map (fx_v ps)) H locs 0 0 := fun q => by
        have := kk ls hl
        rw [q] at this
        exact this
      cases cd
      case eq => exact lv_if_eq hx hb hdg ht (fun q => k1 (decide_eq_true q)) (fun q => k2 (decide_eq_false q))
      case ne => exact lv_if_ne hx hb hdg ht (fun q => k1 (by show (!decide (x = 0)) = true; rw [decide_eq_false q]; rfl)) (fun q => k2 (by show (!decide (x = 0)) = false; rw [decide_eq_true q]; rfl))
      case lt => exact lv_if_lt hx hb hdg ht (fun q => k1 (decide_eq_true q)) (fun q => k2 (decide_eq_false q))
      case ge => exact lv_if_ge hx hb hdg ht (fun q => k1 (decide_eq_true q)) (fun q => k2 (decide_eq_false q))
      case gt => exact lv_if_gt hx hb hdg ht (fun q => k1 (decide_eq_true q)) (fun q => k2 (decide_eq_false q))
      case le => exact lv_if_le hx hb hdg ht (fun q => k1 (decide_eq_true q)) (fun q => k2 (decide_eq_false q))
    · cases h
  case if_icmp cd off =>
    simp [rk_len] at hlen; subst hlen
    change fx_if cd pc off lc stk = some zz at h
    unfold fx_if at h
    split at h
    · next y x r =>
      obtain ⟨hpos, rfl⟩ := fx_if_inv h
      have hpos := of_decide_eq_true hpos
      have ht : (pc : Int) + off = ((((pc : Int) + off).toNat : Nat) : Int) := by omega
      have k1 : fx_cb cd x y = true → rk_KW p l e R s m args below meth c Q (fx_to pc off) ls (r.map (fx_v ps)) H locs 0 0 := fun q => by
        have := kk ls hl
        rw [q] at this
        exact this
      have k2 : fx_cb cd x y = false → rk_KW p l e R s m args below meth c Q (pc + 3) ls (r.map (fx_v ps)) H locs 0 0 := fun q => by
        have := kk ls hl
        rw [q] at this
        exact this
      cases cd
      case eq => exact lv_icmp_eq hx hb hdg ht (fun q => k1 (decide_eq_true q)) (fun q => k2 (decide_eq_false q))
      case ne => exact lv_icmp_ne hx hb hdg ht (fun q => k1 (by show (!decide (x = y)) = true; rw [decide_eq_false q]; rfl)) (fun q => k2 (by show (!decide (x = y)) = false; rw [decide_eq_true q]; rfl))
      case lt => exact lv_icmp_lt hx hb hdg ht (fun q => k1 (decide_eq_true q)) (fun q => k2 (decide_eq_false q))
      case ge => exact lv_icmp_ge hx hb hdg ht (fun q => k1 (decide_eq_true q)) (fun q => k2 (decide_eq_false q))
      case gt => exact lv_icmp_gt hx hb hdg ht (fun q => k1 (decide_eq_true q)) (fun q => k2 (decide_eq_false q))
      case le => exact lv_icmp_le hx hb hdg ht (fun q => k1 (decide_eq_true q)) (fun q => k2 (decide_eq_false q))
    · cases h
  case goto off =>
    simp [rk_len] at hlen; subst hlen
    change fx_goto pc off lc stk = some zz at h
    obtain ⟨hpos, rfl⟩ := fx_if_inv h
    have hpos := of_decide_eq_true hpos
    exact lv_goto (tgt := fx_to pc off) hx hb hdg (by unfold fx_to; omega) (kk ls hl)
  all_goals exact absurd h (fun z => nomatch z)
end FXP
