section MH30_0
/-! ===== the model's table of trials ===== -/
def tg_acc (k m : Nat) : Nat → Nat
  | 0 => 1000000
  | x + 1 => min (tg_acc k m x) (1 + max (tg (k - 1) x) (tg k (m - 1 - x)))
theorem tg_c0 {k : Nat} (hk : k < 7) : tg k 0 = 0 := of_decide_eq_true (List.all_eq_true.mp (show (List.range 7).all (fun k => decide (tg k 0 = 0)) = true from by decide +kernel) k (List.mem_range.mpr hk))
theorem tg_c1 {m : Nat} (hm : m < 61) (h : m ≠ 0) : tg 0 m = 1000000 := of_decide_eq_true (List.all_eq_true.mp (show (List.range 61).all (fun m => decide (m ≠ 0 → tg 0 m = 1000000)) = true from by decide +kernel) m (List.mem_range.mpr hm)) h
theorem tg_c3 {k m : Nat} (hk : k < 7) (hm : m < 61) : tg k m ≤ 1000000 := of_decide_eq_true (List.all_eq_true.mp (List.all_eq_true.mp (show (List.range 7).all (fun k => (List.range 61).all (fun m => decide (tg k m ≤ 1000000))) = true from by decide +kernel) k (List.mem_range.mpr hk)) m (List.mem_range.mpr hm))
/-- the least over a row, by rows: the one below and its own turned round -/
def tg_fold (p q : List Nat) : Nat := (p.zip q).foldl (fun a z => min a (1 + max z.1 z.2)) 1000000
theorem tg_fold_acc (k m : Nat) : ∀ x : Nat, tg_acc k m x = ((List.range x).map (fun i => (tg (k - 1) i, tg k (m - 1 - i)))).foldl (fun a z => min a (1 + max z.1 z.2)) 1000000 := by
  intro x
  induction x with
  | zero => rfl
  | succ x ih => rw [List.range_succ, List.map_append, List.foldl_append, ← ih]; rfl
theorem tg_c2 {k m : Nat} (hk : k < 7) (hk0 : k ≠ 0) (hm : m < 61) (hm0 : m ≠ 0) : tg_acc k m m = tg k m := by
  have h := of_decide_eq_true (List.all_eq_true.mp (List.all_eq_true.mp (show (List.range 7).all (fun k => (List.range 61).all (fun m => decide (k ≠ 0 → m ≠ 0 → tg_acc k m m = tg k m))) = true from by decide +kernel) k (List.mem_range.mpr hk)) m (List.mem_range.mpr hm))
  exact h hk0 hm0
theorem tg_b {k m : Nat} : ∀ x : Nat, tg_acc k m x ≤ 1000000 := by
  intro x
  induction x with
  | zero => exact Nat.le_refl _
  | succ x ih => exact Nat.le_trans (Nat.min_le_left _ _) ih
theorem tg_mul (x y : Nat) : nI x * nI y = nI (x * y) := (Int32.ofNat_mul x y).symm
theorem tg_sub {x y : Nat} (h : y ≤ x) : nI x - nI y = nI (x - y) := by
  have e : nI x = nI (x - y) + nI y := by rw [nI_add, Nat.sub_add_cancel h]
  rw [e, Int32.add_sub_cancel]
theorem tg_max {x y : Nat} (hx : x < 2 ^ 31) (hy : y < 2 ^ 31) : (if nI x < nI y then nI y else nI x) = nI (max x y) := by
  by_cases h : x < y
  · rw [if_pos (nI_lt h hy), Nat.max_eq_right (Nat.le_of_lt h)]
  · rw [if_neg (nI_nlt (by omega) hx), Nat.max_eq_left (by omega)]
theorem tg_min {x y : Nat} (hx : x < 2 ^ 31) (hy : y < 2 ^ 31) : (if nI y < nI x then nI y else nI x) = nI (min x y) := by
  by_cases h : y < x
  · rw [if_pos (nI_lt h hx), Nat.min_eq_right (Nat.le_of_lt h)]
  · rw [if_neg (nI_nlt (by omega) hy), Nat.min_eq_left (by omega)]
theorem tg_in {i : Nat} (h : i < 427) : vp_in (nI i) 427 := nI_in h (by decide)
theorem tg_d344_0 : decode gk_N344.2.2 0 = .ok (.iconst 0, 1) := by decide +kernel
theorem tg_d344_1 : decode gk_N344.2.2 1 = .ok (.istore_n 3, 1) := by decide +kernel
theorem tg_d344_2 : decode gk_N344.2.2 2 = .ok (.iload_n 3, 1) := by decide +kernel
theorem tg_d344_3 : decode gk_N344.2.2 3 = .ok (.iload_n 2, 1) := by decide +kernel
theorem tg_d344_4 : decode gk_N344.2.2 4 = .ok (.if_icmp .gt 104, 3) := by decide +kernel
theorem tg_d344_7 : decode gk_N344.2.2 7 = .ok (.iconst 0, 1) := by decide +kernel
theorem tg_d344_8 : decode gk_N344.2.2 8 = .ok (.istore 4, 2) := by decide +kernel
theorem tg_d344_10 : decode gk_N344.2.2 10 = .ok (.iload 4, 2) := by decide +kernel
theorem tg_d344_12 : decode gk_N344.2.2 12 = .ok (.iload_n 1, 1) := by decide +kernel
theorem tg_d344_13 : decode gk_N344.2.2 13 = .ok (.if_icmp .gt 89, 3) := by decide +kernel
theorem tg_d344_16 : decode gk_N344.2.2 16 = .ok (.aload_n 0, 1) := by decide +kernel
theorem tg_d344_17 : decode gk_N344.2.2 17 = .ok (.getfield 65, 3) := by decide +kernel
theorem tg_d344_20 : decode gk_N344.2.2 20 = .ok (.bipush 61, 2) := by decide +kernel
theorem tg_d344_22 : decode gk_N344.2.2 22 = .ok (.iload_n 3, 1) := by decide +kernel
theorem tg_d344_23 : decode gk_N344.2.2 23 = .ok (.imul, 1) := by decide +kernel
theorem tg_d344_24 : decode gk_N344.2.2 24 = .ok (.iload 4, 2) := by decide +kernel
theorem tg_d344_26 : decode gk_N344.2.2 26 = .ok (.iadd, 1) := by decide +kernel
theorem tg_d344_27 : decode gk_N344.2.2 27 = .ok (.iload 4, 2) := by decide +kernel
theorem tg_d344_29 : decode gk_N344.2.2 29 = .ok (.ifCond .ne 7, 3) := by decide +kernel
theorem tg_d344_32 : decode gk_N344.2.2 32 = .ok (.iconst 0, 1) := by decide +kernel
theorem tg_d344_33 : decode gk_N344.2.2 33 = .ok (.goto 6, 3) := by decide +kernel
theorem tg_d344_36 : decode gk_N344.2.2 36 = .ok (.ldc_w 363, 3) := by decide +kernel
theorem tg_d344_39 : decode gk_N344.2.2 39 = .ok (.iastore, 1) := by decide +kernel
theorem tg_d344_40 : decode gk_N344.2.2 40 = .ok (.iconst 1, 1) := by decide +kernel
theorem tg_d344_41 : decode gk_N344.2.2 41 = .ok (.istore 5, 2) := by decide +kernel
theorem tg_d344_43 : decode gk_N344.2.2 43 = .ok (.iload 5, 2) := by decide +kernel
theorem tg_d344_45 : decode gk_N344.2.2 45 = .ok (.iload 4, 2) := by decide +kernel
theorem tg_d344_47 : decode gk_N344.2.2 47 = .ok (.if_icmp .gt 49, 3) := by decide +kernel
theorem tg_d344_50 : decode gk_N344.2.2 50 = .ok (.iload_n 3, 1) := by decide +kernel
theorem tg_d344_51 : decode gk_N344.2.2 51 = .ok (.ifCond .le 45, 3) := by decide +kernel
theorem tg_d344_54 : decode gk_N344.2.2 54 = .ok (.aload_n 0, 1) := by decide +kernel
theorem tg_d344_55 : decode gk_N344.2.2 55 = .ok (.getfield 65, 3) := by decide +kernel
theorem tg_d344_58 : decode gk_N344.2.2 58 = .ok (.bipush 61, 2) := by decide +kernel
theorem tg_d344_60 : decode gk_N344.2.2 60 = .ok (.iload_n 3, 1) := by decide +kernel
theorem tg_d344_61 : decode gk_N344.2.2 61 = .ok (.imul, 1) := by decide +kernel
theorem tg_d344_62 : decode gk_N344.2.2 62 = .ok (.iload 4, 2) := by decide +kernel
theorem tg_d344_64 : decode gk_N344.2.2 64 = .ok (.iadd, 1) := by decide +kernel
theorem tg_d344_65 : decode gk_N344.2.2 65 = .ok (.aload_n 0, 1) := by decide +kernel
theorem tg_d344_66 : decode gk_N344.2.2 66 = .ok (.getfield 65, 3) := by decide +kernel
theorem tg_d344_69 : decode gk_N344.2.2 69 = .ok (.bipush 61, 2) := by decide +kernel
theorem tg_d344_71 : decode gk_N344.2.2 71 = .ok (.iload_n 3, 1) := by decide +kernel
theorem tg_d344_72 : decode gk_N344.2.2 72 = .ok (.imul, 1) := by decide +kernel
theorem tg_d344_73 : decode gk_N344.2.2 73 = .ok (.iload 4, 2) := by decide +kernel
theorem tg_d344_75 : decode gk_N344.2.2 75 = .ok (.iadd, 1) := by decide +kernel
theorem tg_d344_76 : decode gk_N344.2.2 76 = .ok (.iaload, 1) := by decide +kernel
theorem tg_d344_77 : decode gk_N344.2.2 77 = .ok (.aload_n 0, 1) := by decide +kernel
theorem tg_d344_78 : decode gk_N344.2.2 78 = .ok (.iload 4, 2) := by decide +kernel
theorem tg_d344_80 : decode gk_N344.2.2 80 = .ok (.iload_n 3, 1) := by decide +kernel
theorem tg_d344_81 : decode gk_N344.2.2 81 = .ok (.iload 5, 2) := by decide +kernel
theorem tg_d344_83 : decode gk_N344.2.2 83 = .ok (.invokevirtual 462, 3) := by decide +kernel
theorem tg_d344_86 : decode gk_N344.2.2 86 = .ok (.invokestatic 151, 3) := by decide +kernel
theorem tg_d344_89 : decode gk_N344.2.2 89 = .ok (.iastore, 1) := by decide +kernel
theorem tg_d344_90 : decode gk_N344.2.2 90 = .ok (.iinc 5 1, 3) := by decide +kernel
theorem tg_d344_93 : decode gk_N344.2.2 93 = .ok (.goto (-50), 3) := by decide +kernel
theorem tg_d344_96 : decode gk_N344.2.2 96 = .ok (.iinc 4 1, 3) := by decide +kernel
theorem tg_d344_99 : decode gk_N344.2.2 99 = .ok (.goto (-89), 3) := by decide +kernel
theorem tg_d344_102 : decode gk_N344.2.2 102 = .ok (.iinc 3 1, 3) := by decide +kernel
theorem tg_d344_105 : decode gk_N344.2.2 105 = .ok (.goto (-103), 3) := by decide +kernel
theorem tg_d344_108 : decode gk_N344.2.2 108 = .ok (.aload_n 0, 1) := by decide +kernel
theorem tg_d344_109 : decode gk_N344.2.2 109 = .ok (.getfield 65, 3) := by decide +kernel
theorem tg_d344_112 : decode gk_N344.2.2 112 = .ok (.bipush 61, 2) := by decide +kernel
theorem tg_d344_114 : decode gk_N344.2.2 114 = .ok (.iload_n 2, 1) := by decide +kernel
theorem tg_d344_115 : decode gk_N344.2.2 115 = .ok (.imul, 1) := by decide +kernel
theorem tg_d344_116 : decode gk_N344.2.2 116 = .ok (.iload_n 1, 1) := by decide +kernel
theorem tg_d344_117 : decode gk_N344.2.2 117 = .ok (.iadd, 1) := by decide +kernel
theorem tg_d344_118 : decode gk_N344.2.2 118 = .ok (.iaload, 1) := by decide +kernel
theorem tg_d344_119 : decode gk_N344.2.2 119 = .ok (.ireturn, 1) := by decide +kernel
theorem tg_d345_0 : decode gk_N345.2.2 0 = .ok (.iconst 1, 1) := by decide +kernel
theorem tg_d345_1 : decode gk_N345.2.2 1 = .ok (.aload_n 0, 1) := by decide +kernel
theorem tg_d345_2 : decode gk_N345.2.2 2 = .ok (.getfield 65, 3) := by decide +kernel
theorem tg_d345_5 : decode gk_N345.2.2 5 = .ok (.bipush 61, 2) := by decide +kernel
theorem tg_d345_7 : decode gk_N345.2.2 7 = .ok (.iload_n 2, 1) := by decide +kernel
theorem tg_d345_8 : decode gk_N345.2.2 8 = .ok (.iconst 1, 1) := by decide +kernel
theorem tg_d345_9 : decode gk_N345.2.2 9 = .ok (.isub, 1) := by decide +kernel
theorem tg_d345_10 : decode gk_N345.2.2 10 = .ok (.imul, 1) := by decide +kernel
theorem tg_d345_11 : decode gk_N345.2.2 11 = .ok (.iload_n 3, 1) := by decide +kernel
theorem tg_d345_12 : decode gk_N345.2.2 12 = .ok (.iadd, 1) := by decide +kernel
theorem tg_d345_13 : decode gk_N345.2.2 13 = .ok (.iconst 1, 1) := by decide +kernel
theorem tg_d345_14 : decode gk_N345.2.2 14 = .ok (.isub, 1) := by decide +kernel
theorem tg_d345_15 : decode gk_N345.2.2 15 = .ok (.iaload, 1) := by decide +kernel
theorem tg_d345_16 : decode gk_N345.2.2 16 = .ok (.aload_n 0, 1) := by decide +kernel
theorem tg_d345_17 : decode gk_N345.2.2 17 = .ok (.getfield 65, 3) := by decide +kernel
theorem tg_d345_20 : decode gk_N345.2.2 20 = .ok (.bipush 61, 2) := by decide +kernel
theorem tg_d345_22 : decode gk_N345.2.2 22 = .ok (.iload_n 2, 1) := by decide +kernel
theorem tg_d345_23 : decode gk_N345.2.2 23 = .ok (.imul, 1) := by decide +kernel
theorem tg_d345_24 : decode gk_N345.2.2 24 = .ok (.iload_n 1, 1) := by decide +kernel
theorem tg_d345_25 : decode gk_N345.2.2 25 = .ok (.iadd, 1) := by decide +kernel
theorem tg_d345_26 : decode gk_N345.2.2 26 = .ok (.iload_n 3, 1) := by decide +kernel
theorem tg_d345_27 : decode gk_N345.2.2 27 = .ok (.isub, 1) := by decide +kernel
theorem tg_d345_28 : decode gk_N345.2.2 28 = .ok (.iaload, 1) := by decide +kernel
theorem tg_d345_29 : decode gk_N345.2.2 29 = .ok (.invokestatic 297, 3) := by decide +kernel
theorem tg_d345_32 : decode gk_N345.2.2 32 = .ok (.iadd, 1) := by decide +kernel
theorem tg_d345_33 : decode gk_N345.2.2 33 = .ok (.ireturn, 1) := by decide +kernel
set_option maxHeartbeats 1000000 in
theorem tg_tried (l : Launch) (D : va_G) (ws : va_W) (j kk h0 a : Nat) (cA : ClassId) (vs : List Value) (f : Nat → Int32) (K X t p1 q1 sz : Nat) (hj : ws[j]? = some (h0, .inr (12, vs))) (hv : vs[32]? = some (.ref a)) (hk : ws[kk]? = some (a, .inl (cA, 427, .inl f))) (hK6 : K ≤ 5) (hXt : X < t) (ht : t ≤ 60) (hp : f (61 * K + X) = nI p1) (hq : f (61 * (K + 1) + (t - 1 - X)) = nI q1) (hp1 : p1 ≤ 1000000) (hq1 : q1 ≤ 1000000) : Met l gk_y_345 (Jvm.Cond.code gk_y_345 gk_N345.2.2 4 (some .int) :: gk_tbl) { frames := 1, cells := 0, slots := 0, locals := 40 } (fun v U => v = [Value.ref h0, .int (nI t), .int (nI (K + 1)), .int (nI (X + 1))].toArray ∧ U.heap.size = sz ∧ va_P D gk_cl ws U.heap ∧ va_K D gk_cl [(cA, .int)] U) (va_Qi (S := Unit) (fun r _ => r = nI (1 + max p1 q1)) (fun _ _ => True) (fun q => sz ≤ q)) 0 0 (fun q => sz ≤ q) := by
  refine Met.ofW (cc := gk_N345.2.2) (maxL := 4) (ret := some .int) (by decide +kernel) rfl ?_
  intro p e s m args below meth c s₁ B hml hv0
  obtain ⟨rfl, hsz, hP, hK⟩ := hv0
  have hx := B.exec; have hb := B.bytes; have hr := B.returns
  have hts : ∀ w ∈ gk_tbl, w.before ([Value.ref h0, .int (nI t), .int (nI (K + 1)), .int (nI (X + 1))].toArray) s = true := fun w hw => atoms_spec (ws := Jvm.Cond.code gk_y_345 gk_N345.2.2 4 (some .int) :: gk_tbl) B.pre w (List.mem_cons_of_mem _ hw)
  have hown : s.vm.findClass "GooseIceModel" = some m.cls := findClass_of_methodNamed B.named
  subst hsz
  have hS : va_S (fun q => s.heap.size ≤ q) s.heap s.heap [] := va_S.rf
  have hl := lv_entry ([Value.ref h0, .int (nI t), .int (nI (K + 1)), .int (nI (X + 1))]) (n := 4) (Nat.le_of_ble_eq_true rfl)
  rw [lg_entry_eq]
  generalize (lg_sl ([Value.ref h0, .int (nI t), .int (nI (K + 1)), .int (nI (X + 1))]) ++ List.replicate (4 - (lg_sl ([Value.ref h0, .int (nI t), .int (nI (K + 1)), .int (nI (X + 1))])).length) Slot.unset).toArray = ls at hl ⊢
  have hl : lv_has ls 4 [(0, .ref h0), (1, .int (nI t)), (2, .int (nI (K + 1))), (3, .int (nI (X + 1)))] := hl
  refine lv_iconst (v := nI 1) hx hb tg_d345_0 (by decide +kernel) ?_
  refine lv_aload_n hx hb tg_d345_1 rfl (lv_at hl 0 rfl) ?_
  refine va_get (D := D) (ci := 12) (v := .ref a) (own := "GooseIceModel") (ref := "GooseIceModel") (index := 65) (C := gk_R12) (T := gk_T12) (N := 43) hx hb hts gk_u12 hown hK hP j hj rfl 32 (by decide) (hts _ (rk_mt 1691 (by decide +kernel) rfl)) (fun _ h9 => h9) hv tg_d345_2 ?_
  refine lv_bipush (v := nI 61) hx hb tg_d345_5 (by decide +kernel) ?_
  refine lv_iload_n hx hb tg_d345_7 rfl (lv_at hl 2 rfl) ?_
  refine lv_iconst (v := 1) hx hb tg_d345_8 (by decide +kernel) ?_
  refine lv_isub hx hb tg_d345_9 ?_
  rw [nI_pred]
  refine lv_imul hx hb tg_d345_10 ?_
  rw [tg_mul]
  refine lv_iload_n hx hb tg_d345_11 rfl (lv_at hl 3 rfl) ?_
  refine lv_iadd hx hb tg_d345_12 ?_
  refine lv_iconst (v := 1) hx hb tg_d345_13 (by decide +kernel) ?_
  refine lv_isub hx hb tg_d345_14 ?_
  rw [nI_add, show 61 * K + (X + 1) = (61 * K + X) + 1 by omega, nI_pred]
  refine va_iald hx hb hK hP kk 0 hk rfl (tg_in (by omega)) tg_d345_15 ?_
  rw [nI_clamp (by omega), hp]
  refine lv_aload_n hx hb tg_d345_16 rfl (lv_at hl 0 rfl) ?_
  refine va_get (D := D) (ci := 12) (v := .ref a) (own := "GooseIceModel") (ref := "GooseIceModel") (index := 65) (C := gk_R12) (T := gk_T12) (N := 43) hx hb hts gk_u12 hown hK hP j hj rfl 32 (by decide) (hts _ (rk_mt 1691 (by decide +kernel) rfl)) (fun _ h9 => h9) hv tg_d345_17 ?_
  refine lv_bipush (v := nI 61) hx hb tg_d345_20 (by decide +kernel) ?_
  refine lv_iload_n hx hb tg_d345_22 rfl (lv_at hl 2 rfl) ?_
  refine lv_imul hx hb tg_d345_23 ?_
  refine lv_iload_n hx hb tg_d345_24 rfl (lv_at hl 1 rfl) ?_
  refine lv_iadd hx hb tg_d345_25 ?_
  refine lv_iload_n hx hb tg_d345_26 rfl (lv_at hl 3 rfl) ?_
  refine lv_isub hx hb tg_d345_27 ?_
  rw [tg_mul, nI_add, tg_sub (by omega), show 61 * (K + 1) + t - (X + 1) = 61 * (K + 1) + (t - 1 - X) by omega]
  refine va_iald hx hb hK hP kk 0 hk rfl (tg_in (by omega)) tg_d345_28 ?_
  rw [nI_clamp (by omega), hq]
  refine va_mmax hx hb (by rw [hml]; exact hl.1.symm) hown (hts _ (rk_mt 2033 (by decide +kernel) rfl)) (hts _ (rk_mt 1098 (by decide +kernel) rfl)) (hts _ (rk_mt 240 (by decide +kernel) rfl)) (hts _ (rk_mt 1099 (by decide +kernel) rfl)) (Nat.le_refl _) (Nat.le_of_ble_eq_true rfl) (Nat.zero_le _) (Nat.zero_le _) tg_d345_29 ?_
  rw [tg_max (by omega) (by omega)]
  refine lv_iadd hx hb tg_d345_32 ?_
  rw [nI_add]
  exact W.iret (v := nI (1 + max p1 q1)) hx hb hr (fun t9 ht9 hW => ⟨⟨_, (), rfl, rfl, trivial⟩, hS.F ht9⟩) hS.2.2 tg_d345_33
section TGB
variable {p : Program} {l : Launch} {e : Env} {R : Room} {s : State} {m : MethodId} {args : Array Value} {below : List Frame} {meth : Method} {c : Code} {Q : State → Prop} {D : va_G} {Ad : Nat → Prop}
set_option maxHeartbeats 4000000 in
/-- trialsOf(n, b): the table is filled, its corner is the answer -/
theorem tg_body (hx : p.tables.exec = Jvm.exec) (hb : c.code = gk_N344.2.2) (hml : c.maxLocals = 6) (hts : ∀ w ∈ gk_tbl, w.before args s = true) (hown : s.vm.findClass "GooseIceModel" = some m.cls) {cA : ClassId} (hK : va_K D gk_cl [(cA, .int)] s) (hA : ∀ q, s.heap.size ≤ q → Ad q) (hfr : 2 ≤ R.frames) (hlo : 80 ≤ R.locals) {ws : va_W} {j kk h0 a n b : Nat} {vs : List Value} {f0 : Nat → Int32} (hj : ws[j]? = some (h0, .inr (12, vs))) (hv : vs[32]? = some (.ref a)) (hk : ws[kk]? = some (a, .inl (cA, 427, .inl f0))) (hn : n ≤ 60) (hb6 : b ≤ 6) {H : Heap} {locs : List Loc} {ls : Array Slot} (hP : va_P D gk_cl ws H) (hD : va_D Ad ws) (hS : va_S Ad s.heap H locs) (hl : lv_has ls 6 [(0, .ref h0), (1, .int (nI n)), (2, .int (nI b))])
    (kend : ∀ (H : Heap) (locs : List Loc) (ls : Array Slot) (f : Nat → Int32), va_P D gk_cl (ws.set kk (a, .inl (cA, 427, .inl f))) H → va_D Ad (ws.set kk (a, .inl (cA, 427, .inl f))) → va_S Ad s.heap H locs → (∀ k t, k ≤ b → t ≤ n → f (61 * k + t) = nI (tg k t)) → (∀ i, (∀ k t, k ≤ b → t ≤ n → i ≠ 61 * k + t) → f i = f0 i) → W p l e R s m args below meth c H locs 0 0 Q (F0 m 119 ls [.int (nI (tg b n))])) :
    W p l e R s m args below meth c H locs 0 0 Q (F0 m 0 ls []) := by
  have hjk : kk ≠ j := by rintro rfl; rw [hj] at hk; cases hk
  have hkl : kk < ws.length := (List.getElem?_eq_some_iff.mp hk).1
  obtain ⟨Z, hZ⟩ : ∃ Z : (Nat → Int32) → va_W, ∀ f, Z f = ws.set kk (a, .inl (cA, 427, .inl f)) := ⟨_, fun _ => rfl⟩
  have hZj : ∀ f, (Z f)[j]? = some (h0, .inr (12, vs)) := fun f => by rw [hZ, List.getElem?_set_ne hjk]; exact hj
  have hZk : ∀ f, (Z f)[kk]? = some (a, .inl (cA, 427, .inl f)) := fun f => by rw [hZ, List.getElem?_set_self hkl]
  have hZs : ∀ f g, (Z f).set kk (a, .inl (cA, 427, .inl g)) = Z g := fun f g => by rw [hZ, hZ, List.set_set]
  have hZ0 : Z f0 = ws := by
    rw [hZ]
    apply List.ext_getElem?
    intro i
    rw [List.getElem?_set]
    split
    · next q => subst q; first | exact hk.symm | (rw [if_pos hkl]; exact hk.symm)
    · rfl
  obtain ⟨I, hIe⟩ : ∃ I : (Nat → Int32) → Heap → List Loc → Prop, ∀ f H locs, I f H locs = (va_P D gk_cl (Z f) H ∧ va_D Ad (Z f) ∧ va_S Ad s.heap H locs) := ⟨_, fun _ _ _ => rfl⟩
  have hI0 : I f0 H locs := by rw [hIe, hZ0]; exact ⟨hP, hD, hS⟩
  clear hP hD hS
  -- the state of the table: rows below k, the row k below t, the rest as it was
  obtain ⟨J, hJ⟩ : ∃ J : (Nat → Int32) → Nat → Nat → Prop, ∀ f k t, J f k t = ((∀ k' t', k' < k → t' ≤ n → f (61 * k' + t') = nI (tg k' t')) ∧ (∀ t', t' < t → f (61 * k + t') = nI (tg k t')) ∧ (∀ i, (∀ k' t', k' ≤ b → t' ≤ n → i ≠ 61 * k' + t') → f i = f0 i)) := ⟨_, fun _ _ _ => rfl⟩
  -- the inner loop
  have inner : ∀ (k t : Nat), k ≤ b → t ≤ n → (∀ (H : Heap) (locs : List Loc) (ls : Array Slot) (f : Nat → Int32), I f H locs → J f k (t + 1) → lv_has ls 6 [(0, .ref h0), (1, .int (nI n)), (2, .int (nI b)), (3, .int (nI k)), (4, .int (nI t))] → W p l e R s m args below meth c H locs 0 0 Q (F0 m 96 ls [])) →
      ∀ (r X : Nat), X + r = t → ∀ (H : Heap) (locs : List Loc) (ls : Array Slot) (f : Nat → Int32), I f H locs → J f k t → (f (61 * k + t) = nI (if t = 0 then 0 else if k = 0 then 1000000 else tg_acc k t X)) → lv_has ls 6 [(0, .ref h0), (1, .int (nI n)), (2, .int (nI b)), (3, .int (nI k)), (4, .int (nI t)), (5, .int (nI (X + 1)))] → W p l e R s m args below meth c H locs 0 0 Q (F0 m 43 ls []) := by
    intro k t hkb htn kx r
    induction r with
    | zero =>
      intro X hXr H locs ls f hI hJf hf hl
      have hXt : X = t := by omega
      subst hXt
      refine lv_iload hx hb tg_d344_43 (lv_at hl 5 rfl) ?_
      refine lv_iload hx hb tg_d344_45 (lv_at hl 4 rfl) ?_
      refine lv_icmp_gt (tgt := 96) hx hb tg_d344_47 rfl (fun _ => ?_) (fun h => absurd (nI_lt (by omega) (by omega)) h)
      refine kx H locs ls f hI ?_ (lv_sub hl [0, 1, 2, 3, 4] rfl)
      rw [hJ] at hJf ⊢
      refine ⟨hJf.1, fun t' ht' => ?_, hJf.2.2⟩
      by_cases e9 : t' < X
      · exact hJf.2.1 t' e9
      · have e8 : t' = X := by omega
        subst e8
        rw [hf]
        by_cases h0 : t' = 0
        · rw [if_pos h0, h0, tg_c0 (by omega)]
        · rw [if_neg h0]
          by_cases hk0 : k = 0
          · rw [if_pos hk0, hk0, tg_c1 (by omega) h0]
          · rw [if_neg hk0, tg_c2 (by omega) hk0 (by omega) h0]
    | succ r ih =>
      intro X hXr H locs ls f hI hJf hf hl
      refine lv_iload hx hb tg_d344_43 (lv_at hl 5 rfl) ?_
      refine lv_iload hx hb tg_d344_45 (lv_at hl 4 rfl) ?_
      refine lv_icmp_gt (tgt := 96) hx hb tg_d344_47 rfl (fun h => absurd h (nI_nlt (by omega) (by omega))) (fun _ => ?_)
      refine lv_iload_n hx hb tg_d344_50 rfl (lv_at hl 3 rfl) ?_
      have ht0 : t ≠ 0 := by omega
      refine lv_if_le (tgt := 96) hx hb tg_d344_51 rfl (fun hle => ?_) (fun hgt => ?_)
      · have hk0 : k = 0 := by
          by_cases h : k = 0
          · exact h
          · exact absurd hle (nI_nle (by omega) (by omega))
        refine kx H locs ls f hI ?_ (lv_sub hl [0, 1, 2, 3, 4] rfl)
        rw [hJ] at hJf ⊢
        refine ⟨hJf.1, fun t' ht' => ?_, hJf.2.2⟩
        by_cases e9 : t' < t
        · exact hJf.2.1 t' e9
        · have e8 : t' = t := by omega
          subst e8
          rw [hf, if_neg ht0, if_pos hk0, hk0, tg_c1 (by omega) ht0]
      · have hk0 : k ≠ 0 := by
          rintro rfl
          exact hgt (by decide)
        obtain ⟨K, rfl⟩ : ∃ K, k = K + 1 := ⟨k - 1, by omega⟩
        rw [if_neg ht0, if_neg hk0] at hf
        rw [hIe] at hI
        refine lv_aload_n hx hb tg_d344_54 rfl (lv_at hl 0 rfl) ?_
        refine va_get (D := D) (ci := 12) (v := .ref a) (own := "GooseIceModel") (ref := "GooseIceModel") (index := 65) (C := gk_R12) (T := gk_T12) (N := 43) hx hb hts gk_u12 hown hK hI.1 j (hZj _) rfl 32 (by decide) (hts _ (rk_mt 1691 (by decide +kernel) rfl)) (fun _ h9 => h9) hv tg_d344_55 ?_
        refine lv_bipush (v := nI 61) hx hb tg_d344_58 (by decide +kernel) ?_
        refine lv_iload_n hx hb tg_d344_60 rfl (lv_at hl 3 rfl) ?_
        refine lv_imul hx hb tg_d344_61 ?_
        refine lv_iload hx hb tg_d344_62 (lv_at hl 4 rfl) ?_
        refine lv_iadd hx hb tg_d344_64 ?_
        refine lv_aload_n hx hb tg_d344_65 rfl (lv_at hl 0 rfl) ?_
        refine va_get (D := D) (ci := 12) (v := .ref a) (own := "GooseIceModel") (ref := "GooseIceModel") (index := 65) (C := gk_R12) (T := gk_T12) (N := 43) hx hb hts gk_u12 hown hK hI.1 j (hZj _) rfl 32 (by decide) (hts _ (rk_mt 1691 (by decide +kernel) rfl)) (fun _ h9 => h9) hv tg_d344_66 ?_
        refine lv_bipush (v := nI 61) hx hb tg_d344_69 (by decide +kernel) ?_
        refine lv_iload_n hx hb tg_d344_71 rfl (lv_at hl 3 rfl) ?_
        refine lv_imul hx hb tg_d344_72 ?_
        refine lv_iload hx hb tg_d344_73 (lv_at hl 4 rfl) ?_
        refine lv_iadd hx hb tg_d344_75 ?_
        rw [tg_mul, nI_add]
        refine va_iald hx hb hK hI.1 kk 0 (hZk _) rfl (tg_in (by omega)) tg_d344_76 ?_
        rw [nI_clamp (by omega), hf]
        refine lv_aload_n hx hb tg_d344_77 rfl (lv_at hl 0 rfl) ?_
        refine lv_iload hx hb tg_d344_78 (lv_at hl 4 rfl) ?_
        refine lv_iload_n hx hb tg_d344_80 rfl (lv_at hl 3 rfl) ?_
        refine lv_iload hx hb tg_d344_81 (lv_at hl 5 rfl) ?_
        have hJ1 := hJf
        rw [hJ] at hJ1
        have hp9 : f (61 * K + X) = nI (tg K X) := hJ1.1 K X (by omega) (by omega)
        have hq9 : f (61 * (K + 1) + (t - 1 - X)) = nI (tg (K + 1) (t - 1 - X)) := hJ1.2.1 _ (by omega)
        refine va_calli (va_runV (C := "GooseIceModel") (As := [.int (nI t), .int (nI (K + 1)), .int (nI (X + 1))]) (rest := [.int (nI (tg_acc (K + 1) t X)), .int (nI (61 * (K + 1) + t)), .ref a]) ⟨hx, hb, hml, hown, hts⟩ (tg_tried l D (Z f) j kk h0 a cA vs f K X t _ _ H.size (hZj f) hv (hZk f) (by omega) (by omega) (by omega) hp9 hq9 (tg_c3 (by omega) (by omega)) (tg_c3 (by omega) (by omega))) ⟨callB_of 3 hts (rk_good gk_good (rk_mt 2370 (by decide +kernel) rfl)) rfl rfl rfl (hts _ (rk_mt 238 (by decide +kernel) rfl)) (hts _ (rk_mt 2367 (by decide +kernel) rfl)) ⟨(by decide +kernel), (by decide +kernel), (by decide +kernel)⟩ ⟨hfr, by show 8 + (4 + 11) + 40 ≤ R.locals; omega⟩, hts _ (rk_mt 2369 (by decide +kernel) rfl), hts _ (rk_mt 204 (by decide +kernel) rfl)⟩ ⟨fun v U g mk q => ⟨q.1, q.2.1, q.2.2.1, va_K.moved (u := U) (U := U.calling g mk v) (Vm.Alike.refl U.vm) q.2.2.2⟩, va_recv (hK.sub (tys' := []) [] rfl) hI.1 (ci := 12) (q0 := j) rfl (hZj f), fun U hU hW => ⟨rfl, by rw [hU], by rw [hU]; exact hI.1, va_K.moved hW.alike hK⟩⟩ rfl rfl hl.1 rfl (lv_room (Nat.le_of_ble_eq_true rfl)) tg_d344_83 ⟨Nat.zero_le _, Nat.zero_le _⟩) hI.2.2 (fun q h1 h2 => absurd h2 (by omega)) (fun q h => hA q (Nat.le_trans hI.2.2.1 h)) (fun r0 u t9 H1 locs1 ht9 hvm hw hB hz1 hk1 hS1 => ?_)
        subst hw
        have hP1 : va_P D gk_cl (Z f) H1 := hI.1.kept (fun k9 x9 hx9 => hk1 _ (hI.1 k9 x9 hx9).lt (by have := (hI.1 k9 x9 hx9).lt; omega))
        refine va_mmin hx hb (by rw [hml]; exact hl.1.symm) hown (hts _ (rk_mt 1867 (by decide +kernel) rfl)) (hts _ (rk_mt 1159 (by decide +kernel) rfl)) (hts _ (rk_mt 240 (by decide +kernel) rfl)) (hts _ (rk_mt 1160 (by decide +kernel) rfl)) (by omega) (by show 2 + 13 ≤ R.locals; omega) (Nat.zero_le _) (Nat.zero_le _) tg_d344_86 ?_
        have hbnd := tg_c3 (k := K) (m := X) (by omega) (by omega)
        have hbnd2 := tg_c3 (k := K + 1) (m := t - 1 - X) (by omega) (by omega)
        rw [tg_min (by have := tg_b (k := K + 1) (m := t) X; omega) (by omega)]
        have hacc : min (tg_acc (K + 1) t X) (1 + max (tg K X) (tg (K + 1) (t - 1 - X))) = tg_acc (K + 1) t (X + 1) := rfl
        rw [hacc]
        refine va_iast hx hb hK hP1 hI.2.1 hS1 kk 0 (hZk f) rfl (tg_in (by omega)) tg_d344_89 (fun H2 locs2 hP2 hD2 hS2 => ?_)
        rw [hZs, nI_clamp (by omega)] at hP2 hD2
        refine lv_iinc (v := nI (X + 1 + 1)) hx hb tg_d344_90 hl (k := 5) rfl (by rw [nI_succ (X + 1)]; first | done | rfl) (by decide) rfl (fun ls2 hl2 => ?_)
        refine lv_goto (tgt := 43) hx hb tg_d344_93 rfl ?_
        refine ih (X + 1) (by omega) H2 locs2 ls2 _ (by rw [hIe]; exact ⟨hP2, hD2, hS2⟩) ?_ ?_ (lv_sub hl2 [1, 2, 3, 4, 5, 0] rfl)
        · rw [hJ]
          refine ⟨fun k' t' h1 h2 => ?_, fun t' h1 => ?_, fun i hi => ?_⟩
          · rw [pk_un (by omega)]; exact hJ1.1 k' t' h1 h2
          · rw [pk_un (by omega)]; exact hJ1.2.1 t' h1
          · rw [pk_un (hi _ _ hkb htn)]; exact hJ1.2.2 i hi
        · rw [pk_us, if_neg ht0, if_neg hk0]
  -- the middle loop
  have middle : ∀ (k : Nat), k ≤ b → (∀ (H : Heap) (locs : List Loc) (ls : Array Slot) (f : Nat → Int32), I f H locs → J f k (n + 1) → lv_has ls 6 [(0, .ref h0), (1, .int (nI n)), (2, .int (nI b)), (3, .int (nI k))] → W p l e R s m args below meth c H locs 0 0 Q (F0 m 102 ls [])) →
      ∀ (r t : Nat), t + r = n + 1 → ∀ (H : Heap) (locs : List Loc) (ls : Array Slot) (f : Nat → Int32), I f H locs → J f k t → lv_has ls 6 [(0, .ref h0), (1, .int (nI n)), (2, .int (nI b)), (3, .int (nI k)), (4, .int (nI t))] → W p l e R s m args below meth c H locs 0 0 Q (F0 m 10 ls []) := by
    intro k hkb kx r
    induction r with
    | zero =>
      intro t htr H locs ls f hI hJf hl
      refine lv_iload hx hb tg_d344_10 (lv_at hl 4 rfl) ?_
      refine lv_iload_n hx hb tg_d344_12 rfl (lv_at hl 1 rfl) ?_
      refine lv_icmp_gt (tgt := 102) hx hb tg_d344_13 rfl (fun _ => ?_) (fun h => absurd (nI_lt (by omega) (by omega)) h)
      exact kx H locs ls f hI (by rw [show n + 1 = t by omega]; exact hJf) (lv_sub hl [0, 1, 2, 3] rfl)
    | succ r ih =>
      intro t htr H locs ls f hI hJf hl
      refine lv_iload hx hb tg_d344_10 (lv_at hl 4 rfl) ?_
      refine lv_iload_n hx hb tg_d344_12 rfl (lv_at hl 1 rfl) ?_
      refine lv_icmp_gt (tgt := 102) hx hb tg_d344_13 rfl (fun h => absurd h (nI_nlt (by omega) (by omega))) (fun _ => ?_)
      rw [hIe] at hI
      refine lv_aload_n hx hb tg_d344_16 rfl (lv_at hl 0 rfl) ?_
      refine va_get (D := D) (ci := 12) (v := .ref a) (own := "GooseIceModel") (ref := "GooseIceModel") (index := 65) (C := gk_R12) (T := gk_T12) (N := 43) hx hb hts gk_u12 hown hK hI.1 j (hZj _) rfl 32 (by decide) (hts _ (rk_mt 1691 (by decide +kernel) rfl)) (fun _ h9 => h9) hv tg_d344_17 ?_
      refine lv_bipush (v := nI 61) hx hb tg_d344_20 (by decide +kernel) ?_
      refine lv_iload_n hx hb tg_d344_22 rfl (lv_at hl 3 rfl) ?_
      refine lv_imul hx hb tg_d344_23 ?_
      refine lv_iload hx hb tg_d344_24 (lv_at hl 4 rfl) ?_
      refine lv_iadd hx hb tg_d344_26 ?_
      rw [tg_mul, nI_add]
      refine lv_iload hx hb tg_d344_27 (lv_at hl 4 rfl) ?_
      have store : ∀ (v : Nat), v = (if t = 0 then 0 else 1000000) → W p l e R s m args below meth c H locs 0 0 Q (F0 m 39 ls [.int (nI v), .int (nI (61 * k + t)), .ref a]) := by
        intro v hvv
        refine va_iast hx hb hK hI.1 hI.2.1 hI.2.2 kk 0 (hZk f) rfl (tg_in (by omega)) tg_d344_39 (fun H2 locs2 hP2 hD2 hS2 => ?_)
        rw [hZs, nI_clamp (by omega)] at hP2 hD2
        refine lv_iconst (v := nI (0 + 1)) hx hb tg_d344_40 (by decide +kernel) ?_
        refine lv_istore hx hb tg_d344_41 hl (by decide) rfl (fun ls2 hl2 => ?_)
        refine inner k t hkb (by omega) (fun H3 locs3 ls3 f3 hI3 hJ3 hl3 => ?_) t 0 (by omega) H2 locs2 ls2 _ (by rw [hIe]; exact ⟨hP2, hD2, hS2⟩) ?_ ?_ (lv_sub hl2 [1, 2, 3, 4, 5, 0] rfl)
        · refine lv_iinc (v := nI (t + 1)) hx hb tg_d344_96 hl3 (k := 4) rfl (by rw [nI_succ t]; first | done | rfl) (by decide) rfl (fun ls4 hl4 => ?_)
          refine lv_goto (tgt := 10) hx hb tg_d344_99 rfl ?_
          exact ih (t + 1) (by omega) H3 locs3 ls4 f3 hI3 hJ3 (lv_sub hl4 [1, 2, 3, 4, 0] rfl)
        · rw [hJ] at hJf ⊢
          refine ⟨fun k' t' h1 h2 => ?_, fun t' h1 => ?_, fun i hi => ?_⟩
          · rw [pk_un (by omega)]; exact hJf.1 k' t' h1 h2
          · rw [pk_un (by omega)]; exact hJf.2.1 t' h1
          · rw [pk_un (hi _ _ hkb (by omega))]; exact hJf.2.2 i hi
        · rw [pk_us, hvv]
          by_cases h0 : t = 0
          · rw [if_pos h0, if_pos h0]
          · rw [if_neg h0, if_neg h0]
            by_cases hk0 : k = 0
            · rw [if_pos hk0]
            · rw [if_neg hk0]; rfl
      refine lv_if_ne (tgt := 36) hx hb tg_d344_29 rfl (fun hne => ?_) (fun heq => ?_)
      · have ht0 : t ≠ 0 := by rintro rfl; exact hne (by decide)
        refine lv_ldcw (v := 1000000) hx hb hown (hts _ (rk_mt 2133 (by decide +kernel) rfl)) tg_d344_36 ?_
        exact store 1000000 (by rw [if_neg ht0])
      · have ht0 : t = 0 := by
          by_cases h : t = 0
          · exact h
          · exact absurd heq (nI_ne0 (by omega) (by omega))
        refine lv_iconst (v := nI 0) hx hb tg_d344_32 (by decide +kernel) ?_
        refine lv_goto (tgt := 39) hx hb tg_d344_33 rfl ?_
        exact store 0 (by rw [if_pos ht0])
  -- the outer loop
  have outer : ∀ (r k : Nat), k + r = b + 1 → ∀ (H : Heap) (locs : List Loc) (ls : Array Slot) (f : Nat → Int32), I f H locs → J f k 0 → lv_has ls 6 [(0, .ref h0), (1, .int (nI n)), (2, .int (nI b)), (3, .int (nI k))] → W p l e R s m args below meth c H locs 0 0 Q (F0 m 2 ls []) := by
    intro r
    induction r with
    | zero =>
      intro k hkr H locs ls f hI hJf hl
      refine lv_iload_n hx hb tg_d344_2 rfl (lv_at hl 3 rfl) ?_
      refine lv_iload_n hx hb tg_d344_3 rfl (lv_at hl 2 rfl) ?_
      refine lv_icmp_gt (tgt := 108) hx hb tg_d344_4 rfl (fun _ => ?_) (fun h => absurd (nI_lt (by omega) (by omega)) h)
      rw [hIe] at hI
      rw [hJ] at hJf
      refine lv_aload_n hx hb tg_d344_108 rfl (lv_at hl 0 rfl) ?_
      refine va_get (D := D) (ci := 12) (v := .ref a) (own := "GooseIceModel") (ref := "GooseIceModel") (index := 65) (C := gk_R12) (T := gk_T12) (N := 43) hx hb hts gk_u12 hown hK hI.1 j (hZj _) rfl 32 (by decide) (hts _ (rk_mt 1691 (by decide +kernel) rfl)) (fun _ h9 => h9) hv tg_d344_109 ?_
      refine lv_bipush (v := nI 61) hx hb tg_d344_112 (by decide +kernel) ?_
      refine lv_iload_n hx hb tg_d344_114 rfl (lv_at hl 2 rfl) ?_
      refine lv_imul hx hb tg_d344_115 ?_
      refine lv_iload_n hx hb tg_d344_116 rfl (lv_at hl 1 rfl) ?_
      refine lv_iadd hx hb tg_d344_117 ?_
      rw [tg_mul, nI_add]
      refine va_iald hx hb hK hI.1 kk 0 (hZk _) rfl (tg_in (by omega)) tg_d344_118 ?_
      rw [nI_clamp (by omega), hJf.1 b n (by omega) (Nat.le_refl _)]
      rw [hZ] at hI
      exact kend H locs ls f hI.1 hI.2.1 hI.2.2 (fun k' t' h1 h2 => hJf.1 k' t' (by omega) h2) hJf.2.2
    | succ r ih =>
      intro k hkr H locs ls f hI hJf hl
      refine lv_iload_n hx hb tg_d344_2 rfl (lv_at hl 3 rfl) ?_
      refine lv_iload_n hx hb tg_d344_3 rfl (lv_at hl 2 rfl) ?_
      refine lv_icmp_gt (tgt := 108) hx hb tg_d344_4 rfl (fun h => absurd h (nI_nlt (by omega) (by omega))) (fun _ => ?_)
      refine lv_iconst (v := nI 0) hx hb tg_d344_7 (by decide +kernel) ?_
      refine lv_istore hx hb tg_d344_8 hl (by decide) rfl (fun ls2 hl2 => ?_)
      refine middle k (by omega) (fun H3 locs3 ls3 f3 hI3 hJ3 hl3 => ?_) (n + 1) 0 (by omega) H locs ls2 f hI hJf (lv_sub hl2 [1, 2, 3, 4, 0] rfl)
      refine lv_iinc (v := nI (k + 1)) hx hb tg_d344_102 hl3 (k := 3) rfl (by rw [nI_succ k]; first | done | rfl) (by decide) rfl (fun ls4 hl4 => ?_)
      refine lv_goto (tgt := 2) hx hb tg_d344_105 rfl ?_
      refine ih (k + 1) (by omega) H3 locs3 ls4 f3 hI3 ?_ (lv_sub hl4 [1, 2, 3, 0] rfl)
      rw [hJ] at hJ3 ⊢
      refine ⟨fun k' t' h1 h2 => ?_, fun t' h1 => absurd h1 (by omega), hJ3.2.2⟩
      by_cases h9 : k' < k
      · exact hJ3.1 k' t' h9 h2
      · rw [show k' = k by omega]; exact hJ3.2.1 t' (by omega)
  refine lv_iconst (v := nI 0) hx hb tg_d344_0 (by decide +kernel) ?_
  refine lv_istore_n hx hb tg_d344_1 rfl hl (by decide) rfl (fun ls2 hl2 => ?_)
  exact outer (b + 1) 0 (by omega) H locs ls2 f0 hI0 (by rw [hJ]; exact ⟨fun _ _ h => absurd h (by omega), fun _ h => absurd h (by omega), fun _ _ => rfl⟩) (lv_sub hl2 [1, 2, 3, 0] rfl)
end TGB
end MH30_0
section MH30_1
/-! ===== the class's Reader: the loop over the text ===== -/
def rd_step (z : Nat × List Int64) (c : Int32) : Nat × List Int64 := if c = 32 then (z.1 + 1, z.2) else if z.1 < 23 then (z.1, z.2.set z.1 (z.2.getD z.1 0 * 32 + (c - 97 + 1).toInt64)) else z
def rd : Nat → Nat × List Int64
  | 0 => (0, List.replicate 23 0)
  | k + 1 => rd_step (rd k) (sg_b.getD k 0)
theorem rd_len : ∀ k : Nat, (rd k).2.length = 23 := by
  intro k
  induction k with
  | zero => rfl
  | succ k ih =>
    show (rd_step (rd k) (sg_b.getD k 0)).2.length = 23
    unfold rd_step
    split
    · exact ih
    · split
      · rw [List.length_set]; exact ih
      · exact ih
theorem rd_at : ∀ k : Nat, (rd k).1 ≤ k := by
  intro k
  induction k with
  | zero => exact Nat.le_refl _
  | succ k ih =>
    show (rd_step (rd k) (sg_b.getD k 0)).1 ≤ k + 1
    unfold rd_step
    split
    · exact Nat.succ_le_succ ih
    · split
      · exact Nat.le_succ_of_le ih
      · exact Nat.le_succ_of_le ih
theorem rd_d35 : decode gk_N99.2.2 35 = .ok (.iload_n 2, 1) := by decide +kernel
theorem rd_d36 : decode gk_N99.2.2 36 = .ok (.ldc 26, 2) := by decide +kernel
theorem rd_d38 : decode gk_N99.2.2 38 = .ok (.invokevirtual 28, 3) := by decide +kernel
theorem rd_d41 : decode gk_N99.2.2 41 = .ok (.if_icmp .ge 58, 3) := by decide +kernel
theorem rd_d44 : decode gk_N99.2.2 44 = .ok (.ldc 26, 2) := by decide +kernel
theorem rd_d46 : decode gk_N99.2.2 46 = .ok (.iload_n 2, 1) := by decide +kernel
theorem rd_d47 : decode gk_N99.2.2 47 = .ok (.invokevirtual 34, 3) := by decide +kernel
theorem rd_d50 : decode gk_N99.2.2 50 = .ok (.istore_n 3, 1) := by decide +kernel
theorem rd_d51 : decode gk_N99.2.2 51 = .ok (.iload_n 3, 1) := by decide +kernel
theorem rd_d52 : decode gk_N99.2.2 52 = .ok (.bipush 32, 2) := by decide +kernel
theorem rd_d54 : decode gk_N99.2.2 54 = .ok (.if_icmp .ne 9, 3) := by decide +kernel
theorem rd_d57 : decode gk_N99.2.2 57 = .ok (.iinc 1 1, 3) := by decide +kernel
theorem rd_d60 : decode gk_N99.2.2 60 = .ok (.goto 33, 3) := by decide +kernel
theorem rd_d63 : decode gk_N99.2.2 63 = .ok (.iload_n 1, 1) := by decide +kernel
theorem rd_d64 : decode gk_N99.2.2 64 = .ok (.bipush 23, 2) := by decide +kernel
theorem rd_d66 : decode gk_N99.2.2 66 = .ok (.if_icmp .ge 27, 3) := by decide +kernel
theorem rd_d69 : decode gk_N99.2.2 69 = .ok (.aload_n 0, 1) := by decide +kernel
theorem rd_d70 : decode gk_N99.2.2 70 = .ok (.getfield 15, 3) := by decide +kernel
theorem rd_d73 : decode gk_N99.2.2 73 = .ok (.iload_n 1, 1) := by decide +kernel
theorem rd_d74 : decode gk_N99.2.2 74 = .ok (.aload_n 0, 1) := by decide +kernel
theorem rd_d75 : decode gk_N99.2.2 75 = .ok (.getfield 15, 3) := by decide +kernel
theorem rd_d78 : decode gk_N99.2.2 78 = .ok (.iload_n 1, 1) := by decide +kernel
theorem rd_d79 : decode gk_N99.2.2 79 = .ok (.laload, 1) := by decide +kernel
theorem rd_d80 : decode gk_N99.2.2 80 = .ok (.ldc2_w 38, 3) := by decide +kernel
theorem rd_d83 : decode gk_N99.2.2 83 = .ok (.lmul, 1) := by decide +kernel
theorem rd_d84 : decode gk_N99.2.2 84 = .ok (.iload_n 3, 1) := by decide +kernel
theorem rd_d85 : decode gk_N99.2.2 85 = .ok (.bipush 97, 2) := by decide +kernel
theorem rd_d87 : decode gk_N99.2.2 87 = .ok (.isub, 1) := by decide +kernel
theorem rd_d88 : decode gk_N99.2.2 88 = .ok (.iconst 1, 1) := by decide +kernel
theorem rd_d89 : decode gk_N99.2.2 89 = .ok (.iadd, 1) := by decide +kernel
theorem rd_d90 : decode gk_N99.2.2 90 = .ok (.i2l, 1) := by decide +kernel
theorem rd_d91 : decode gk_N99.2.2 91 = .ok (.ladd, 1) := by decide +kernel
theorem rd_d92 : decode gk_N99.2.2 92 = .ok (.lastore, 1) := by decide +kernel
theorem rd_d93 : decode gk_N99.2.2 93 = .ok (.iinc 2 1, 3) := by decide +kernel
theorem rd_d96 : decode gk_N99.2.2 96 = .ok (.goto (-61), 3) := by decide +kernel
theorem rd_d99 : decode gk_N99.2.2 99 = .ok (.return_, 1) := by decide +kernel
section RDB
variable {p : Program} {l : Launch} {e : Env} {R : Room} {s : State} {m : MethodId} {args : Array Value} {below : List Frame} {meth : Method} {c : Code} {Q : State → Prop} {D : va_G} {Ad : Nat → Prop}
set_option maxHeartbeats 4000000 in
theorem rd_body (hx : p.tables.exec = Jvm.exec) (hb : c.code = gk_N99.2.2) (hml : c.maxLocals = 4) (hts : ∀ w ∈ gk_tbl, w.before args s = true) (hown : s.vm.findClass "GooseIce$Reader" = some m.cls) {cA : ClassId} (hK : va_K D gk_cl [(cA, .long)] s) (hA : ∀ q, s.heap.size ≤ q → Ad q) {a v : Nat} {tx : String} (hX : sg_X a v Ad s s.heap) (hR : vk_R "GooseIce$Reader" 26 tx a s) (hfr : 5 ≤ R.frames) (hlo : 200 ≤ R.locals) {ws : va_W} {j kk h0 q nc ns : Nat} {vs : List Value} {f0 : Nat → Int64} (hnc : nc ≤ R.cells) (hns : ns ≤ R.slots) (hj : ws[j]? = some (h0, .inr (8, vs))) (hv : vs[1]? = some (.ref q)) (hk : ws[kk]? = some (q, .inl (cA, 23, .inr (.inl f0)))) (hf0 : ∀ i, f0 i = 0) {H : Heap} {locs : List Loc} {ls : Array Slot} (hP : va_P D gk_cl ws H) (hD : va_D Ad ws) (hS : va_S Ad s.heap H locs) (hl : lv_has ls 4 [(0, .ref h0), (1, .int (nI 0)), (2, .int (nI 0))])
    (kend : ∀ (H : Heap) (locs : List Loc) (ls : Array Slot) (f : Nat → Int64), va_P D gk_cl (ws.set kk (q, .inl (cA, 23, .inr (.inl f)))) H → va_D Ad (ws.set kk (q, .inl (cA, 23, .inr (.inl f)))) → va_S Ad s.heap H locs → (∀ i, f i = (rd 115).2.getD i 0) → lv_has ls 4 [(0, .ref h0)] → W p l e R s m args below meth c H locs nc ns Q (F0 m 99 ls [])) :
    W p l e R s m args below meth c H locs nc ns Q (F0 m 35 ls []) := by
  have hjk : kk ≠ j := by rintro rfl; rw [hj] at hk; cases hk
  have hkl : kk < ws.length := (List.getElem?_eq_some_iff.mp hk).1
  obtain ⟨Z, hZ⟩ : ∃ Z : (Nat → Int64) → va_W, ∀ f, Z f = ws.set kk (q, .inl (cA, 23, .inr (.inl f))) := ⟨_, fun _ => rfl⟩
  have hZj : ∀ f, (Z f)[j]? = some (h0, .inr (8, vs)) := fun f => by rw [hZ, List.getElem?_set_ne hjk]; exact hj
  have hZk : ∀ f, (Z f)[kk]? = some (q, .inl (cA, 23, .inr (.inl f))) := fun f => by rw [hZ, List.getElem?_set_self hkl]
  have hZs : ∀ f g, (Z f).set kk (q, .inl (cA, 23, .inr (.inl g))) = Z g := fun f g => by rw [hZ, hZ, List.set_set]
  have hZ0 : Z f0 = ws := by
    rw [hZ]
    apply List.ext_getElem?
    intro i
    rw [List.getElem?_set]
    split
    · next z => subst z; first | exact hk.symm | (rw [if_pos hkl]; exact hk.symm)
    · rfl
  have h115 : sg_n = 115 := by decide
  have loop : ∀ (r k : Nat), k + r = 115 → ∀ (H : Heap) (locs : List Loc) (ls : Array Slot) (f : Nat → Int64), (va_P D gk_cl (Z f) H ∧ va_D Ad (Z f) ∧ va_S Ad s.heap H locs) → (∀ i, f i = (rd k).2.getD i 0) → lv_has ls 4 [(0, .ref h0), (1, .int (nI (rd k).1)), (2, .int (nI k))] → W p l e R s m args below meth c H locs nc ns Q (F0 m 35 ls []) := by
    intro r
    induction r with
    | zero =>
      intro k hkr H locs ls f hI hf hl
      have hrec : ∃ cell : Cell, H[a]? = some cell ∧ cell.vm.isStatics = false ∧ s.vm.findClass "java/lang/String" = some cell.cls := by
        obtain ⟨cell, h1, h2, h3, -⟩ := hX.1.kept hI.2.2.2.1
        exact ⟨cell, h1, h2, h3⟩
      refine lv_iload_n hx hb rd_d35 rfl (lv_at hl 2 rfl) ?_
      refine va_ldcS hx hb hown hR rd_d36 ?_
      refine va_calli (va_runV (C := "java/lang/String") (As := []) (rest := [.int (nI k)]) ⟨hx, hb, hml, hown, hts⟩ (sg_length l a v H.size) ⟨callB_of 0 hts (rk_good gk_good (rk_mt 262 (by decide +kernel) rfl)) rfl rfl rfl (hts _ (rk_mt 223 (by decide +kernel) rfl)) (hts _ (rk_mt 259 (by decide +kernel) rfl)) ⟨(by decide +kernel), (by decide +kernel), (by decide +kernel)⟩ ⟨by show 2 + 1 ≤ R.frames; omega, by show 8 + (1 + 11) + 80 ≤ R.locals; omega⟩, hts _ (rk_mt 260 (by decide +kernel) rfl), hts _ (rk_mt 261 (by decide +kernel) rfl)⟩ ⟨sg_blind _ _ _ _, hrec, fun U hU hW => ⟨rfl, by rw [hU], sg_pre hX hI.2.2 hA hU hW⟩⟩ rfl rfl hl.1 rfl (lv_room (Nat.le_of_ble_eq_true rfl)) rd_d38 ⟨by omega, by omega⟩) hI.2.2 (fun q h1 h2 => absurd h2 (by omega)) (fun q h => hA q (Nat.le_trans hI.2.2.1 h)) (fun r0 u t H1 locs1 ht hvm hw hB hz1 hk1 hS1 => ?_)
      subst hw
      have hP1 : va_P D gk_cl (Z f) H1 := hI.1.kept (fun k9 x9 hx9 => hk1 _ (hI.1 k9 x9 hx9).lt (by have := (hI.1 k9 x9 hx9).lt; omega))
      refine lv_icmp_ge (tgt := 99) hx hb rd_d41 rfl (fun _ => ?_) (fun h => absurd (nI_le (a := sg_n) (b := k) (by omega) (by omega)) h)
      rw [hZ] at hP1 hI
      refine kend H1 locs1 ls f hP1 hI.2.1 hS1 (fun i => by rw [hf i, show k = 115 by omega]) (lv_sub hl [0] rfl)
    | succ r ih =>
      intro k hkr H locs ls f hI hf hl
      have hkn : k < sg_n := by omega
      have hrec : ∃ cell : Cell, H[a]? = some cell ∧ cell.vm.isStatics = false ∧ s.vm.findClass "java/lang/String" = some cell.cls := by
        obtain ⟨cell, h1, h2, h3, -⟩ := hX.1.kept hI.2.2.2.1
        exact ⟨cell, h1, h2, h3⟩
      refine lv_iload_n hx hb rd_d35 rfl (lv_at hl 2 rfl) ?_
      refine va_ldcS hx hb hown hR rd_d36 ?_
      refine va_calli (va_runV (C := "java/lang/String") (As := []) (rest := [.int (nI k)]) ⟨hx, hb, hml, hown, hts⟩ (sg_length l a v H.size) ⟨callB_of 0 hts (rk_good gk_good (rk_mt 262 (by decide +kernel) rfl)) rfl rfl rfl (hts _ (rk_mt 223 (by decide +kernel) rfl)) (hts _ (rk_mt 259 (by decide +kernel) rfl)) ⟨(by decide +kernel), (by decide +kernel), (by decide +kernel)⟩ ⟨by show 2 + 1 ≤ R.frames; omega, by show 8 + (1 + 11) + 80 ≤ R.locals; omega⟩, hts _ (rk_mt 260 (by decide +kernel) rfl), hts _ (rk_mt 261 (by decide +kernel) rfl)⟩ ⟨sg_blind _ _ _ _, hrec, fun U hU hW => ⟨rfl, by rw [hU], sg_pre hX hI.2.2 hA hU hW⟩⟩ rfl rfl hl.1 rfl (lv_room (Nat.le_of_ble_eq_true rfl)) rd_d38 ⟨by omega, by omega⟩) hI.2.2 (fun q h1 h2 => absurd h2 (by omega)) (fun q h => hA q (Nat.le_trans hI.2.2.1 h)) (fun r0 u t H1 locs1 ht hvm hw hB hz1 hk1 hS1 => ?_)
      subst hw
      have hP1 : va_P D gk_cl (Z f) H1 := hI.1.kept (fun k9 x9 hx9 => hk1 _ (hI.1 k9 x9 hx9).lt (by have := (hI.1 k9 x9 hx9).lt; omega))
      have hI : va_P D gk_cl (Z f) H1 ∧ va_D Ad (Z f) ∧ va_S Ad s.heap H1 locs1 := ⟨hP1, hI.2.1, hS1⟩
      have hrec : ∃ cell : Cell, H1[a]? = some cell ∧ cell.vm.isStatics = false ∧ s.vm.findClass "java/lang/String" = some cell.cls := by
        obtain ⟨cell, h1, h2, h3, -⟩ := hX.1.kept hI.2.2.2.1
        exact ⟨cell, h1, h2, h3⟩
      refine lv_icmp_ge (tgt := 99) hx hb rd_d41 rfl (fun h => absurd h (nI_ge (a := k) (b := sg_n) (by omega) (by omega))) (fun _ => ?_)
      refine va_ldcS hx hb hown hR rd_d44 ?_
      refine lv_iload_n hx hb rd_d46 rfl (lv_at hl 2 rfl) ?_
      refine va_calli (va_runV (C := "java/lang/String") (As := [.int (nI k)]) (rest := []) ⟨hx, hb, hml, hown, hts⟩ (sg_charAt l a v H1.size k hkn) ⟨callB_of 1 hts (rk_good gk_good (rk_mt 272 (by decide +kernel) rfl)) rfl rfl rfl (hts _ (rk_mt 223 (by decide +kernel) rfl)) (hts _ (rk_mt 269 (by decide +kernel) rfl)) ⟨(by decide +kernel), (by decide +kernel), (by decide +kernel)⟩ ⟨by show 4 + 1 ≤ R.frames; omega, by show 8 + (2 + 11) + 160 ≤ R.locals; omega⟩, hts _ (rk_mt 270 (by decide +kernel) rfl), hts _ (rk_mt 271 (by decide +kernel) rfl)⟩ ⟨sg_blind _ _ _ _, hrec, fun U hU hW => ⟨rfl, by rw [hU], sg_pre hX hI.2.2 hA hU hW⟩⟩ rfl rfl hl.1 rfl (lv_room (Nat.le_of_ble_eq_true rfl)) rd_d47 ⟨by omega, by omega⟩) hI.2.2 (fun q h1 h2 => absurd h2 (by omega)) (fun q h => hA q (Nat.le_trans hI.2.2.1 h)) (fun r1 u1 t1 H2 locs2 ht1 hvm1 hw1 hB1 hz2 hk2 hS2 => ?_)
      subst hw1
      have hP2 : va_P D gk_cl (Z f) H2 := hP1.kept (fun k9 x9 hx9 => hk2 _ (hP1 k9 x9 hx9).lt (by have := (hP1 k9 x9 hx9).lt; omega))
      have hI : va_P D gk_cl (Z f) H2 ∧ va_D Ad (Z f) ∧ va_S Ad s.heap H2 locs2 := ⟨hP2, hI.2.1, hS2⟩
      refine lv_istore_n hx hb rd_d50 rfl hl (by decide) rfl (fun ls2 hl2 => ?_)
      have hl2 : lv_has ls2 4 [(3, .int (sg_b.getD k 0)), (0, .ref h0), (1, .int (nI (rd k).1)), (2, .int (nI k))] := hl2
      have hat := rd_at k
      have nextk : ∀ (H3 : Heap) (locs3 : List Loc) (ls3 : Array Slot) (g : Nat → Int64), (va_P D gk_cl (Z g) H3 ∧ va_D Ad (Z g) ∧ va_S Ad s.heap H3 locs3) → (∀ i, g i = (rd (k + 1)).2.getD i 0) → lv_has ls3 4 [(0, .ref h0), (1, .int (nI (rd (k + 1)).1)), (2, .int (nI k))] → W p l e R s m args below meth c H3 locs3 nc ns Q (F0 m 93 ls3 []) := by
        intro H3 locs3 ls3 g hI3 hg hl3
        refine lv_iinc (v := nI (k + 1)) hx hb rd_d93 hl3 (k := 2) rfl (by rw [nI_succ k]; first | done | rfl) (by decide) rfl (fun ls4 hl4 => ?_)
        refine lv_goto (tgt := 35) hx hb rd_d96 rfl ?_
        exact ih (k + 1) (by omega) H3 locs3 ls4 g hI3 hg (lv_sub hl4 [1, 2, 0] rfl)
      refine lv_iload_n hx hb rd_d51 rfl (lv_at hl2 0 rfl) ?_
      refine lv_bipush (v := 32) hx hb rd_d52 (by decide +kernel) ?_
      refine lv_icmp_ne (tgt := 63) hx hb rd_d54 rfl (fun hne => ?_) (fun heq => ?_)
      · refine lv_iload_n hx hb rd_d63 rfl (lv_at hl2 2 rfl) ?_
        refine lv_bipush (v := nI 23) hx hb rd_d64 (by decide +kernel) ?_
        refine lv_icmp_ge (tgt := 93) hx hb rd_d66 rfl (fun hge => ?_) (fun hlt => ?_)
        · have h23 : ¬ (rd k).1 < 23 := fun h => absurd hge (nI_ge h (by omega))
          have e1 : rd (k + 1) = rd k := by
            show rd_step (rd k) (sg_b.getD k 0) = rd k
            unfold rd_step
            rw [if_neg hne, if_neg h23]
          exact nextk H2 locs2 ls2 f hI (by rw [e1]; exact hf) (by rw [e1]; exact lv_sub hl2 [1, 2, 3] rfl)
        · have h23 : (rd k).1 < 23 := Nat.lt_of_not_le (fun h => hlt (nI_le h (by omega)))
          have e1 : rd (k + 1) = ((rd k).1, (rd k).2.set (rd k).1 ((rd k).2.getD (rd k).1 0 * 32 + (sg_b.getD k 0 - 97 + 1).toInt64)) := by
            show rd_step (rd k) (sg_b.getD k 0) = _
            unfold rd_step
            rw [if_neg hne, if_pos h23]
          refine lv_aload_n hx hb rd_d69 rfl (lv_at hl2 1 rfl) ?_
          refine va_get (D := D) (ci := 8) (v := .ref q) (own := "GooseIce$Reader") (ref := "GooseIce$Reader") (index := 15) (C := gk_R8) (T := gk_T8) (N := 12) hx hb hts gk_u8 hown hK hI.1 j (hZj _) rfl 1 (by decide) (hts _ (rk_mt 309 (by decide +kernel) rfl)) (fun _ h9 => h9) hv rd_d70 ?_
          refine lv_iload_n hx hb rd_d73 rfl (lv_at hl2 2 rfl) ?_
          refine lv_aload_n hx hb rd_d74 rfl (lv_at hl2 1 rfl) ?_
          refine va_get (D := D) (ci := 8) (v := .ref q) (own := "GooseIce$Reader") (ref := "GooseIce$Reader") (index := 15) (C := gk_R8) (T := gk_T8) (N := 12) hx hb hts gk_u8 hown hK hI.1 j (hZj _) rfl 1 (by decide) (hts _ (rk_mt 309 (by decide +kernel) rfl)) (fun _ h9 => h9) hv rd_d75 ?_
          refine lv_iload_n hx hb rd_d78 rfl (lv_at hl2 2 rfl) ?_
          refine va_lald hx hb hK hI.1 kk 0 (hZk _) rfl (nI_in h23 (by decide)) rd_d79 ?_
          rw [nI_clamp (by omega), hf]
          refine W.ldc2 (v := 32) hx hb hown (hts _ (rk_mt 307 (by decide +kernel) rfl)) rfl rd_d80 ?_
          refine lv_lmul hx hb rd_d83 ?_
          refine lv_iload_n hx hb rd_d84 rfl (lv_at hl2 0 rfl) ?_
          refine lv_bipush (v := 97) hx hb rd_d85 (by decide +kernel) ?_
          refine lv_isub hx hb rd_d87 ?_
          refine lv_iconst (v := 1) hx hb rd_d88 (by decide +kernel) ?_
          refine lv_iadd hx hb rd_d89 ?_
          refine lv_i2l hx hb rd_d90 rfl ?_
          refine lv_ladd hx hb rd_d91 ?_
          refine va_last hx hb hK hI.1 hI.2.1 hI.2.2 kk 0 (hZk _) rfl (nI_in h23 (by decide)) rd_d92 (fun H3 locs3 hP3 hD3 hS3 => ?_)
          rw [hZs, nI_clamp (by omega)] at hP3 hD3
          refine nextk H3 locs3 ls2 _ ⟨hP3, hD3, hS3⟩ (fun i => ?_) (by rw [e1]; exact lv_sub hl2 [1, 2, 3] rfl)
          rw [e1]
          dsimp only
          by_cases hi : i = (rd k).1
          · subst hi
            rw [pk_uLs]
            generalize (rd k).2.getD (rd k).1 0 * 32 + (sg_b.getD k 0 - 97 + 1).toInt64 = V
            rw [List.getD_eq_getElem?_getD, List.getElem?_set_self (by rw [rd_len]; exact h23)]
            rfl
          · rw [pk_uLn hi, hf, List.getD_eq_getElem?_getD, List.getD_eq_getElem?_getD, List.getElem?_set_ne (Ne.symm hi)]
      · have heq : sg_b.getD k 0 = 32 := by
          first | exact heq | exact Decidable.not_not.mp heq
        have e1 : rd (k + 1) = ((rd k).1 + 1, (rd k).2) := by
          show rd_step (rd k) (sg_b.getD k 0) = _
          unfold rd_step
          rw [if_pos heq]
        refine lv_iinc (v := nI ((rd k).1 + 1)) hx hb rd_d57 hl2 (k := 2) rfl (by rw [nI_succ (rd k).1]; first | done | rfl) (by decide) rfl (fun ls3 hl3 => ?_)
        refine lv_goto (tgt := 93) hx hb rd_d60 rfl ?_
        exact nextk H2 locs2 ls3 f hI (by rw [e1]; exact hf) (by rw [e1]; exact lv_sub hl3 [2, 0, 3] rfl)
  exact loop 115 0 (by omega) H locs ls f0 (by rw [hZ0]; exact ⟨hP, hD, hS⟩) (fun i => by rw [hf0 i]; show (0 : Int64) = (List.replicate 23 (0 : Int64)).getD i 0; rw [List.getD_eq_getElem?_getD, List.getElem?_replicate]; split <;> rfl) hl
end RDB
end MH30_1
