/-! ===== the one text of the class: what is known of it; the JDK's length and charAt over it ===== -/
def sg_X (a v : Nat) (A : Nat → Prop) (U : State) (H : Heap) : Prop := va_O "java/lang/String" a A U H ∧ va_OF "java/lang/String" "coder" "B" (.int 0) a A U H ∧ va_OF "java/lang/String" "value" "[B" (.ref v) a A U H ∧ va_T .byte v sg_n (fun j => .int (sg_b.getD j 0)) A U H ∧ va_Z "java/lang/String" "COMPACT_STRINGS" "Z" (.int 1) A U H ∧ va_Zq "jdk/internal/util/Preconditions" "SIOOBE_FORMATTER" "Ljava/util/function/BiFunction;" A U H
theorem sg_X.moved {a v : Nat} {A : Nat → Prop} {u U : State} {H : Heap} (hvm : u.vm.Alike U.vm) (h : sg_X a v A u H) : sg_X a v A U H := ⟨va_O.moved hvm h.1, va_OF.moved hvm h.2.1, va_OF.moved hvm h.2.2.1, va_T.moved hvm h.2.2.2.1, va_Z.moved hvm h.2.2.2.2.1, va_Zq.moved hvm h.2.2.2.2.2⟩
theorem sg_X.kept {a v : Nat} {A : Nat → Prop} {U : State} {H H1 : Heap} (h : sg_X a v A U H) (hq : ∀ a : Nat, a < H.size → ¬ A a → H1[a]? = H[a]?) : sg_X a v A U H1 := ⟨h.1.kept hq, h.2.1.kept hq, h.2.2.1.kept hq, h.2.2.2.1.kept hq, h.2.2.2.2.1.kept hq, h.2.2.2.2.2.kept hq⟩
theorem sg_X.narrow {a v : Nat} {A B : Nat → Prop} {U : State} {H : Heap} (h : sg_X a v A U H) (hAB : ∀ q, B q → A q) : sg_X a v B U H := ⟨h.1.narrow hAB, h.2.1.narrow hAB, h.2.2.1.narrow hAB, h.2.2.2.1.narrow hAB, h.2.2.2.2.1.narrow hAB, h.2.2.2.2.2.narrow hAB⟩
theorem sg_pre {a v : Nat} {A : Nat → Prop} {s U : State} {H : Heap} {locs : List Loc} (h : sg_X a v A s s.heap) (hS : va_S A s.heap H locs) (hA : ∀ q, s.heap.size ≤ q → A q) (hU : U.heap = H) (hW : s.WarmedH U.vm) : sg_X a v (fun q => H.size ≤ q) U U.heap := by
  rw [hU]
  exact ((h.kept hS.2.1).narrow (fun q hq => hA q (Nat.le_trans hS.1 hq))).moved hW.alike
def sg_Pc (av : List Value) (a v sz : Nat) : Array Value → State → Prop := fun w U => w = av.toArray ∧ U.heap.size = sz ∧ sg_X a v (fun q => sz ≤ q) U U.heap
theorem sg_blind (av : List Value) (a v sz : Nat) : FrameBlind (sg_Pc av a v sz) := fun w U g mk q => ⟨q.1, q.2.1, sg_X.moved (u := U) (U := U.calling g mk w) (Vm.Alike.refl U.vm) q.2.2⟩
abbrev sg_Q (r : Int32) (sz : Nat) : Array Value → State → Outcome → State → Prop := va_Qi (S := Unit) (fun r' _ => r' = r) (fun _ _ => True) (fun q => sz ≤ q)
abbrev sg_Qv (sz : Nat) : Array Value → State → Outcome → State → Prop := va_Qv (S := Unit) (fun _ => True) (fun _ _ => True) (fun q => sz ≤ q)
theorem sg_d377_0 : decode gk_N377.2.2 0 = .ok (.aload_n 0, 1) := by decide +kernel
theorem sg_d377_1 : decode gk_N377.2.2 1 = .ok (.getfield 9, 3) := by decide +kernel
theorem sg_d377_4 : decode gk_N377.2.2 4 = .ok (.arraylength, 1) := by decide +kernel
theorem sg_d377_5 : decode gk_N377.2.2 5 = .ok (.aload_n 0, 1) := by decide +kernel
theorem sg_d377_6 : decode gk_N377.2.2 6 = .ok (.invokevirtual 335, 3) := by decide +kernel
theorem sg_d377_9 : decode gk_N377.2.2 9 = .ok (.ishr, 1) := by decide +kernel
theorem sg_d377_10 : decode gk_N377.2.2 10 = .ok (.ireturn, 1) := by decide +kernel
theorem sg_d378_0 : decode gk_N378.2.2 0 = .ok (.aload_n 0, 1) := by decide +kernel
theorem sg_d378_1 : decode gk_N378.2.2 1 = .ok (.invokevirtual 492, 3) := by decide +kernel
theorem sg_d378_4 : decode gk_N378.2.2 4 = .ok (.ifCond .eq 12, 3) := by decide +kernel
theorem sg_d378_7 : decode gk_N378.2.2 7 = .ok (.aload_n 0, 1) := by decide +kernel
theorem sg_d378_8 : decode gk_N378.2.2 8 = .ok (.getfield 9, 3) := by decide +kernel
theorem sg_d378_11 : decode gk_N378.2.2 11 = .ok (.iload_n 1, 1) := by decide +kernel
theorem sg_d378_12 : decode gk_N378.2.2 12 = .ok (.invokestatic 495, 3) := by decide +kernel
theorem sg_d378_15 : decode gk_N378.2.2 15 = .ok (.ireturn, 1) := by decide +kernel
theorem sg_d378_16 : decode gk_N378.2.2 16 = .ok (.aload_n 0, 1) := by decide +kernel
theorem sg_d378_17 : decode gk_N378.2.2 17 = .ok (.getfield 9, 3) := by decide +kernel
theorem sg_d378_20 : decode gk_N378.2.2 20 = .ok (.iload_n 1, 1) := by decide +kernel
theorem sg_d378_21 : decode gk_N378.2.2 21 = .ok (.invokestatic 498, 3) := by decide +kernel
theorem sg_d378_24 : decode gk_N378.2.2 24 = .ok (.ireturn, 1) := by decide +kernel
theorem sg_d379_0 : decode gk_N379.2.2 0 = .ok (.getstatic 38, 3) := by decide +kernel
theorem sg_d379_3 : decode gk_N379.2.2 3 = .ok (.ifCond .eq 10, 3) := by decide +kernel
theorem sg_d379_6 : decode gk_N379.2.2 6 = .ok (.aload_n 0, 1) := by decide +kernel
theorem sg_d379_7 : decode gk_N379.2.2 7 = .ok (.getfield 15, 3) := by decide +kernel
theorem sg_d379_10 : decode gk_N379.2.2 10 = .ok (.goto 4, 3) := by decide +kernel
theorem sg_d379_13 : decode gk_N379.2.2 13 = .ok (.iconst 1, 1) := by decide +kernel
theorem sg_d379_14 : decode gk_N379.2.2 14 = .ok (.ireturn, 1) := by decide +kernel
theorem sg_d380_0 : decode gk_N380.2.2 0 = .ok (.getstatic 38, 3) := by decide +kernel
theorem sg_d380_3 : decode gk_N380.2.2 3 = .ok (.ifCond .eq 14, 3) := by decide +kernel
theorem sg_d380_6 : decode gk_N380.2.2 6 = .ok (.aload_n 0, 1) := by decide +kernel
theorem sg_d380_7 : decode gk_N380.2.2 7 = .ok (.getfield 15, 3) := by decide +kernel
theorem sg_d380_10 : decode gk_N380.2.2 10 = .ok (.ifCond .ne 7, 3) := by decide +kernel
theorem sg_d380_13 : decode gk_N380.2.2 13 = .ok (.iconst 1, 1) := by decide +kernel
theorem sg_d380_14 : decode gk_N380.2.2 14 = .ok (.goto 4, 3) := by decide +kernel
theorem sg_d380_17 : decode gk_N380.2.2 17 = .ok (.iconst 0, 1) := by decide +kernel
theorem sg_d380_18 : decode gk_N380.2.2 18 = .ok (.ireturn, 1) := by decide +kernel
theorem sg_d381_0 : decode gk_N381.2.2 0 = .ok (.iload_n 0, 1) := by decide +kernel
theorem sg_d381_1 : decode gk_N381.2.2 1 = .ok (.iload_n 1, 1) := by decide +kernel
theorem sg_d381_2 : decode gk_N381.2.2 2 = .ok (.getstatic 1053, 3) := by decide +kernel
theorem sg_d381_5 : decode gk_N381.2.2 5 = .ok (.invokestatic 1059, 3) := by decide +kernel
theorem sg_d381_8 : decode gk_N381.2.2 8 = .ok (.pop, 1) := by decide +kernel
theorem sg_d381_9 : decode gk_N381.2.2 9 = .ok (.return_, 1) := by decide +kernel
theorem sg_d382_0 : decode gk_N382.2.2 0 = .ok (.iload_n 1, 1) := by decide +kernel
theorem sg_d382_1 : decode gk_N382.2.2 1 = .ok (.aload_n 0, 1) := by decide +kernel
theorem sg_d382_2 : decode gk_N382.2.2 2 = .ok (.arraylength, 1) := by decide +kernel
theorem sg_d382_3 : decode gk_N382.2.2 3 = .ok (.invokestatic 9, 3) := by decide +kernel
theorem sg_d382_6 : decode gk_N382.2.2 6 = .ok (.aload_n 0, 1) := by decide +kernel
theorem sg_d382_7 : decode gk_N382.2.2 7 = .ok (.iload_n 1, 1) := by decide +kernel
theorem sg_d382_8 : decode gk_N382.2.2 8 = .ok (.baload, 1) := by decide +kernel
theorem sg_d382_9 : decode gk_N382.2.2 9 = .ok (.sipush 255, 3) := by decide +kernel
theorem sg_d382_12 : decode gk_N382.2.2 12 = .ok (.iand, 1) := by decide +kernel
theorem sg_d382_13 : decode gk_N382.2.2 13 = .ok (.i2c, 1) := by decide +kernel
theorem sg_d382_14 : decode gk_N382.2.2 14 = .ok (.ireturn, 1) := by decide +kernel
theorem sg_d389_0 : decode gk_N389.2.2 0 = .ok (.iload_n 0, 1) := by decide +kernel
theorem sg_d389_1 : decode gk_N389.2.2 1 = .ok (.ifCond .lt 8, 3) := by decide +kernel
theorem sg_d389_4 : decode gk_N389.2.2 4 = .ok (.iload_n 0, 1) := by decide +kernel
theorem sg_d389_5 : decode gk_N389.2.2 5 = .ok (.iload_n 1, 1) := by decide +kernel
theorem sg_d389_6 : decode gk_N389.2.2 6 = .ok (.if_icmp .lt 10, 3) := by decide +kernel
theorem sg_d389_9 : decode gk_N389.2.2 9 = .ok (.aload_n 2, 1) := by decide +kernel
theorem sg_d389_10 : decode gk_N389.2.2 10 = .ok (.iload_n 0, 1) := by decide +kernel
theorem sg_d389_11 : decode gk_N389.2.2 11 = .ok (.iload_n 1, 1) := by decide +kernel
theorem sg_d389_12 : decode gk_N389.2.2 12 = .ok (.invokestatic 95, 3) := by decide +kernel
theorem sg_d389_15 : decode gk_N389.2.2 15 = .ok (.athrow, 1) := by decide +kernel
theorem sg_d389_16 : decode gk_N389.2.2 16 = .ok (.iload_n 0, 1) := by decide +kernel
theorem sg_d389_17 : decode gk_N389.2.2 17 = .ok (.ireturn, 1) := by decide +kernel
set_option maxHeartbeats 1000000 in
theorem sg_coder (l : Launch) (a v sz : Nat) : Met l gk_y_379 (Jvm.Cond.code gk_y_379 gk_N379.2.2 1 (some .byte) :: gk_tbl) { frames := 1, cells := 0, slots := 0, locals := 40 } (sg_Pc [.ref a] a v sz) (sg_Q 0 sz) 0 0 (fun q => sz ≤ q) := by
  refine Met.ofW (cc := gk_N379.2.2) (maxL := 1) (ret := (some .byte)) (by decide +kernel) rfl ?_
  intro p e s m args below meth c s₁ B hml hv
  obtain ⟨rfl, hsz, hX⟩ := hv
  have hx := B.exec; have hb := B.bytes; have hr := B.returns; have hlocks := B.notSynchronized
  have hts : ∀ w ∈ gk_tbl, w.before (List.toArray [.ref a]) s = true := fun w hw => atoms_spec (ws := Jvm.Cond.code gk_y_379 gk_N379.2.2 1 (some .byte) :: gk_tbl) B.pre w (List.mem_cons_of_mem _ hw)
  have hown : s.vm.findClass "java/lang/String" = some m.cls := findClass_of_methodNamed B.named
  subst hsz
  have hS : va_S (fun q => s.heap.size ≤ q) s.heap s.heap [] := va_S.rf
  have hA : ∀ q : Nat, s.heap.size ≤ q → s.heap.size ≤ q := fun _ h => h
  have hX0 := hX
  obtain ⟨hO, hC, hV, hT, hZ, hF⟩ := hX
  have hl := lv_entry [.ref a] (n := 1) (Nat.le_of_ble_eq_true rfl)
  rw [lg_entry_eq]
  generalize (lg_sl [.ref a] ++ List.replicate (1 - (lg_sl [.ref a]).length) Slot.unset).toArray = ls at hl ⊢
  have hl : lv_has ls 1 [(0, .ref a)] := hl
  refine va_gets hx hb hZ hS hown (hts _ (rk_mt 267 (by decide +kernel) rfl)) (fun _ h => h) sg_d379_0 ?_
  refine lv_if_eq (tgt := 13) hx hb sg_d379_3 rfl (fun h => absurd h (by decide)) (fun _ => ?_)
  refine lv_aload_n hx hb sg_d379_6 rfl (lv_at hl 0 rfl) ?_
  refine vk_getf hx hb hC hS hown (hts _ (rk_mt 2477 (by decide +kernel) rfl)) (fun _ h => h) sg_d379_7 ?_
  refine lv_goto (tgt := 14) hx hb sg_d379_10 rfl ?_
  exact W.zret (ty := .byte) (v := 0) hx hb hr (by decide) (fun t ht hW => ⟨⟨_, (), rfl, rfl, trivial⟩, hS.F ht⟩) hS.2.2 sg_d379_14
set_option maxHeartbeats 1000000 in
theorem sg_isLatin1 (l : Launch) (a v sz : Nat) : Met l gk_y_380 (Jvm.Cond.code gk_y_380 gk_N380.2.2 1 (some .boolean) :: gk_tbl) { frames := 1, cells := 0, slots := 0, locals := 40 } (sg_Pc [.ref a] a v sz) (sg_Q 1 sz) 0 0 (fun q => sz ≤ q) := by
  refine Met.ofW (cc := gk_N380.2.2) (maxL := 1) (ret := (some .boolean)) (by decide +kernel) rfl ?_
  intro p e s m args below meth c s₁ B hml hv
  obtain ⟨rfl, hsz, hX⟩ := hv
  have hx := B.exec; have hb := B.bytes; have hr := B.returns; have hlocks := B.notSynchronized
  have hts : ∀ w ∈ gk_tbl, w.before (List.toArray [.ref a]) s = true := fun w hw => atoms_spec (ws := Jvm.Cond.code gk_y_380 gk_N380.2.2 1 (some .boolean) :: gk_tbl) B.pre w (List.mem_cons_of_mem _ hw)
  have hown : s.vm.findClass "java/lang/String" = some m.cls := findClass_of_methodNamed B.named
  subst hsz
  have hS : va_S (fun q => s.heap.size ≤ q) s.heap s.heap [] := va_S.rf
  have hA : ∀ q : Nat, s.heap.size ≤ q → s.heap.size ≤ q := fun _ h => h
  have hX0 := hX
  obtain ⟨hO, hC, hV, hT, hZ, hF⟩ := hX
  have hl := lv_entry [.ref a] (n := 1) (Nat.le_of_ble_eq_true rfl)
  rw [lg_entry_eq]
  generalize (lg_sl [.ref a] ++ List.replicate (1 - (lg_sl [.ref a]).length) Slot.unset).toArray = ls at hl ⊢
  have hl : lv_has ls 1 [(0, .ref a)] := hl
  refine va_gets hx hb hZ hS hown (hts _ (rk_mt 267 (by decide +kernel) rfl)) (fun _ h => h) sg_d380_0 ?_
  refine lv_if_eq (tgt := 17) hx hb sg_d380_3 rfl (fun h => absurd h (by decide)) (fun _ => ?_)
  refine lv_aload_n hx hb sg_d380_6 rfl (lv_at hl 0 rfl) ?_
  refine vk_getf hx hb hC hS hown (hts _ (rk_mt 2477 (by decide +kernel) rfl)) (fun _ h => h) sg_d380_7 ?_
  refine lv_if_ne (tgt := 17) hx hb sg_d380_10 rfl (fun h => absurd rfl h) (fun _ => ?_)
  refine lv_iconst (v := 1) hx hb sg_d380_13 rfl ?_
  refine lv_goto (tgt := 18) hx hb sg_d380_14 rfl ?_
  exact W.zret (ty := .boolean) (v := 1) hx hb hr (by decide) (fun t ht hW => ⟨⟨_, (), rfl, rfl, trivial⟩, hS.F ht⟩) hS.2.2 sg_d380_18
set_option maxHeartbeats 1000000 in
theorem sg_length (l : Launch) (a v sz : Nat) : Met l gk_y_377 (Jvm.Cond.code gk_y_377 gk_N377.2.2 1 (some .int) :: gk_tbl) { frames := 2, cells := 0, slots := 0, locals := 80 } (sg_Pc [.ref a] a v sz) (sg_Q (Int32.ofNat sg_n) sz) 0 0 (fun q => sz ≤ q) := by
  refine Met.ofW (cc := gk_N377.2.2) (maxL := 1) (ret := (some .int)) (by decide +kernel) rfl ?_
  intro p e s m args below meth c s₁ B hml hv
  obtain ⟨rfl, hsz, hX⟩ := hv
  have hx := B.exec; have hb := B.bytes; have hr := B.returns; have hlocks := B.notSynchronized
  have hts : ∀ w ∈ gk_tbl, w.before (List.toArray [.ref a]) s = true := fun w hw => atoms_spec (ws := Jvm.Cond.code gk_y_377 gk_N377.2.2 1 (some .int) :: gk_tbl) B.pre w (List.mem_cons_of_mem _ hw)
  have hown : s.vm.findClass "java/lang/String" = some m.cls := findClass_of_methodNamed B.named
  subst hsz
  have hS : va_S (fun q => s.heap.size ≤ q) s.heap s.heap [] := va_S.rf
  have hA : ∀ q : Nat, s.heap.size ≤ q → s.heap.size ≤ q := fun _ h => h
  have hX0 := hX
  obtain ⟨hO, hC, hV, hT, hZ, hF⟩ := hX
  have hl := lv_entry [.ref a] (n := 1) (Nat.le_of_ble_eq_true rfl)
  rw [lg_entry_eq]
  generalize (lg_sl [.ref a] ++ List.replicate (1 - (lg_sl [.ref a]).length) Slot.unset).toArray = ls at hl ⊢
  have hl : lv_has ls 1 [(0, .ref a)] := hl
  refine lv_aload_n hx hb sg_d377_0 rfl (lv_at hl 0 rfl) ?_
  refine vk_getf hx hb hV hS hown (hts _ (rk_mt 2476 (by decide +kernel) rfl)) (fun _ h => h) sg_d377_1 ?_
  refine va_tlen hx hb hT hS rfl sg_d377_4 ?_
  refine lv_aload_n hx hb sg_d377_5 rfl (lv_at hl 0 rfl) ?_
  refine va_calli (va_runV (C := "java/lang/String") (As := []) (rest := [.int (Int32.ofNat sg_n)]) ⟨hx, hb, hml, hown, hts⟩ (sg_coder l a v s.heap.size) ⟨callB_of 0 hts (rk_good gk_good (rk_mt 266 (by decide +kernel) rfl)) rfl rfl rfl (hts _ (rk_mt 223 (by decide +kernel) rfl)) (hts _ (rk_mt 263 (by decide +kernel) rfl)) ⟨(by decide +kernel), (by decide +kernel), (by decide +kernel)⟩ ⟨Nat.le_of_ble_eq_true rfl, Nat.le_of_ble_eq_true rfl⟩, hts _ (rk_mt 264 (by decide +kernel) rfl), hts _ (rk_mt 265 (by decide +kernel) rfl)⟩ ⟨sg_blind _ _ _ _, (by obtain ⟨cell, h1, h2, h3, -⟩ := hO.kept hS.2.1; exact ⟨cell, h1, h2, h3⟩), fun U hU hW => ⟨rfl, by rw [hU], sg_pre hX0 hS hA hU hW⟩⟩ rfl rfl hl.1 rfl (lv_room (Nat.le_of_ble_eq_true rfl)) sg_d377_6 ⟨Nat.zero_le _, Nat.zero_le _⟩) hS (fun q h1 h2 => absurd h2 (by omega)) (fun q h => Nat.le_trans hS.1 h) (fun r0 u t H1 locs1 ht hvm hw hB hz1 hk1 hS => ?_)
  subst hw
  refine lv_ishr hx hb sg_d377_9 ?_
  rw [show (Int32.ofNat sg_n >>> ((0 : Int32) &&& 31)) = Int32.ofNat sg_n from by decide +kernel]
  exact W.iret (v := Int32.ofNat sg_n) hx hb hr (fun t ht hW => ⟨⟨_, (), rfl, rfl, trivial⟩, hS.F ht⟩) hS.2.2 sg_d377_10
set_option maxHeartbeats 1000000 in
theorem sg_pcheck (l : Launch) (a v sz : Nat) (i n : Int32) (x : Value) (h0 : ¬ i < 0) (h1 : i < n) (hx0 : x.category = 1) : Met l gk_y_389 (Jvm.Cond.code gk_y_389 gk_N389.2.2 3 (some .int) :: gk_tbl) { frames := 1, cells := 0, slots := 0, locals := 40 } (sg_Pc [.int i, .int n, x] a v sz) (sg_Q i sz) 0 0 (fun q => sz ≤ q) := by
  refine Met.ofW (cc := gk_N389.2.2) (maxL := 3) (ret := (some .int)) (by decide +kernel) rfl ?_
  intro p e s m args below meth c s₁ B hml hv
  obtain ⟨rfl, hsz, hX⟩ := hv
  have hx := B.exec; have hb := B.bytes; have hr := B.returns; have hlocks := B.notSynchronized
  have hts : ∀ w ∈ gk_tbl, w.before (List.toArray [.int i, .int n, x]) s = true := fun w hw => atoms_spec (ws := Jvm.Cond.code gk_y_389 gk_N389.2.2 3 (some .int) :: gk_tbl) B.pre w (List.mem_cons_of_mem _ hw)
  have hown : s.vm.findClass "jdk/internal/util/Preconditions" = some m.cls := findClass_of_methodNamed B.named
  subst hsz
  have hS : va_S (fun q => s.heap.size ≤ q) s.heap s.heap [] := va_S.rf
  have hA : ∀ q : Nat, s.heap.size ≤ q → s.heap.size ≤ q := fun _ h => h
  have hX0 := hX
  obtain ⟨hO, hC, hV, hT, hZ, hF⟩ := hX
  have hl := lv_entry [.int i, .int n, x] (n := 3) (by rw [rk_lgsl]; show (1 : Nat) + (1 + (x.category + 0)) ≤ 3; rw [hx0]; decide)
  rw [lg_entry_eq]
  generalize (lg_sl [.int i, .int n, x] ++ List.replicate (3 - (lg_sl [.int i, .int n, x]).length) Slot.unset).toArray = ls at hl ⊢
  have hl : lv_has ls 3 [(0, .int i), (1, .int n), (2, x)] := hl
  refine lv_iload_n hx hb sg_d389_0 rfl (lv_at hl 0 rfl) ?_
  refine lv_if_lt (tgt := 9) hx hb sg_d389_1 rfl (fun h => absurd h h0) (fun _ => ?_)
  refine lv_iload_n hx hb sg_d389_4 rfl (lv_at hl 0 rfl) ?_
  refine lv_iload_n hx hb sg_d389_5 rfl (lv_at hl 1 rfl) ?_
  refine lv_icmp_lt (tgt := 16) hx hb sg_d389_6 rfl (fun _ => ?_) (fun h => absurd h1 h)
  refine lv_iload_n hx hb sg_d389_16 rfl (lv_at hl 0 rfl) ?_
  exact W.iret (v := i) hx hb hr (fun t ht hW => ⟨⟨_, (), rfl, rfl, trivial⟩, hS.F ht⟩) hS.2.2 sg_d389_17
set_option maxHeartbeats 1000000 in
theorem sg_check (l : Launch) (a v sz : Nat) (i n : Int32) (h0 : ¬ i < 0) (h1 : i < n) : Met l gk_y_381 (Jvm.Cond.code gk_y_381 gk_N381.2.2 2 none :: gk_tbl) { frames := 2, cells := 0, slots := 0, locals := 80 } (sg_Pc [.int i, .int n] a v sz) (sg_Qv sz) 0 0 (fun q => sz ≤ q) := by
  refine Met.ofW (cc := gk_N381.2.2) (maxL := 2) (ret := none) (by decide +kernel) rfl ?_
  intro p e s m args below meth c s₁ B hml hv
  obtain ⟨rfl, hsz, hX⟩ := hv
  have hx := B.exec; have hb := B.bytes; have hr := B.returns; have hlocks := B.notSynchronized
  have hts : ∀ w ∈ gk_tbl, w.before (List.toArray [.int i, .int n]) s = true := fun w hw => atoms_spec (ws := Jvm.Cond.code gk_y_381 gk_N381.2.2 2 none :: gk_tbl) B.pre w (List.mem_cons_of_mem _ hw)
  have hown : s.vm.findClass "java/lang/String" = some m.cls := findClass_of_methodNamed B.named
  subst hsz
  have hS : va_S (fun q => s.heap.size ≤ q) s.heap s.heap [] := va_S.rf
  have hA : ∀ q : Nat, s.heap.size ≤ q → s.heap.size ≤ q := fun _ h => h
  have hX0 := hX
  obtain ⟨hO, hC, hV, hT, hZ, hF⟩ := hX
  have hl := lv_entry [.int i, .int n] (n := 2) (Nat.le_of_ble_eq_true rfl)
  rw [lg_entry_eq]
  generalize (lg_sl [.int i, .int n] ++ List.replicate (2 - (lg_sl [.int i, .int n]).length) Slot.unset).toArray = ls at hl ⊢
  have hl : lv_has ls 2 [(0, .int i), (1, .int n)] := hl
  refine lv_iload_n hx hb sg_d381_0 rfl (lv_at hl 0 rfl) ?_
  refine lv_iload_n hx hb sg_d381_1 rfl (lv_at hl 1 rfl) ?_
  obtain ⟨x, hxc, hFx⟩ : ∃ x : Value, x.category = 1 ∧ va_Z "jdk/internal/util/Preconditions" "SIOOBE_FORMATTER" "Ljava/util/function/BiFunction;" x (fun q => s.heap.size ≤ q) s s.heap := by
    rcases hF with h | ⟨t, h⟩
    · exact ⟨_, rfl, h⟩
    · exact ⟨_, rfl, h⟩
  refine va_gets hx hb hFx hS hown (hts _ (rk_mt 283 (by decide +kernel) rfl)) (fun _ h => h) sg_d381_2 ?_
  refine va_calli (va_runS (As := [.int i, .int n, x]) (rest := []) ⟨hx, hb, hml, hown, hts⟩ (sg_pcheck l a v s.heap.size i n x h0 h1 hxc) ⟨callB_of 3 hts (rk_good gk_good (rk_mt 287 (by decide +kernel) rfl)) rfl rfl rfl (hts _ (rk_mt 225 (by decide +kernel) rfl)) (hts _ (rk_mt 285 (by decide +kernel) rfl)) ⟨(by decide +kernel), (by decide +kernel), (by decide +kernel)⟩ ⟨Nat.le_of_ble_eq_true rfl, Nat.le_of_ble_eq_true rfl⟩, hts _ (rk_mt 286 (by decide +kernel) rfl)⟩ ⟨sg_blind _ _ _ _, fun U hU hW => ⟨rfl, by rw [hU], sg_pre hX0 hS hA hU hW⟩⟩ rfl rfl hl.1 rfl (lv_room (Nat.le_of_ble_eq_true rfl)) sg_d381_5 ⟨Nat.zero_le _, Nat.zero_le _⟩) hS (fun q h1 h2 => absurd h2 (by omega)) (fun q h => Nat.le_trans hS.1 h) (fun r0 u t H1 locs1 ht hvm hw hB hz1 hk1 hS => ?_)
  subst hw
  refine lv_pop hx hb sg_d381_8 rfl ?_
  exact W.vret hx hb hr (fun t ht hW => ⟨⟨(), rfl, trivial, trivial⟩, hS.F ht⟩) hS.2.2 sg_d381_9
set_option maxHeartbeats 1000000 in
theorem sg_lchar (l : Launch) (a v sz : Nat) (k : Nat) (hk : k < sg_n) : Met l gk_y_382 (Jvm.Cond.code gk_y_382 gk_N382.2.2 2 (some .char) :: gk_tbl) { frames := 3, cells := 0, slots := 0, locals := 120 } (sg_Pc [.ref v, .int (nI k)] a v sz) (sg_Q (sg_b.getD k 0) sz) 0 0 (fun q => sz ≤ q) := by
  refine Met.ofW (cc := gk_N382.2.2) (maxL := 2) (ret := (some .char)) (by decide +kernel) rfl ?_
  intro p e s m args below meth c s₁ B hml hv
  obtain ⟨rfl, hsz, hX⟩ := hv
  have hx := B.exec; have hb := B.bytes; have hr := B.returns; have hlocks := B.notSynchronized
  have hts : ∀ w ∈ gk_tbl, w.before (List.toArray [.ref v, .int (nI k)]) s = true := fun w hw => atoms_spec (ws := Jvm.Cond.code gk_y_382 gk_N382.2.2 2 (some .char) :: gk_tbl) B.pre w (List.mem_cons_of_mem _ hw)
  have hown : s.vm.findClass "java/lang/StringLatin1" = some m.cls := findClass_of_methodNamed B.named
  subst hsz
  have hS : va_S (fun q => s.heap.size ≤ q) s.heap s.heap [] := va_S.rf
  have hA : ∀ q : Nat, s.heap.size ≤ q → s.heap.size ≤ q := fun _ h => h
  have hX0 := hX
  obtain ⟨hO, hC, hV, hT, hZ, hF⟩ := hX
  have hl := lv_entry [.ref v, .int (nI k)] (n := 2) (Nat.le_of_ble_eq_true rfl)
  rw [lg_entry_eq]
  generalize (lg_sl [.ref v, .int (nI k)] ++ List.replicate (2 - (lg_sl [.ref v, .int (nI k)]).length) Slot.unset).toArray = ls at hl ⊢
  have hl : lv_has ls 2 [(0, .ref v), (1, .int (nI k))] := hl
  refine lv_iload_n hx hb sg_d382_0 rfl (lv_at hl 1 rfl) ?_
  refine lv_aload_n hx hb sg_d382_1 rfl (lv_at hl 0 rfl) ?_
  refine va_tlen hx hb hT hS rfl sg_d382_2 ?_
  have hn : sg_n < 2 ^ 31 := by decide
  refine va_callv (va_runS (As := [.int (nI k), .int (nI sg_n)]) (rest := []) ⟨hx, hb, hml, hown, hts⟩ (sg_check l a v s.heap.size (nI k) (nI sg_n) (nI_pos (by omega)) (nI_lt hk hn)) ⟨callB_of 2 hts (rk_good gk_good (rk_mt 282 (by decide +kernel) rfl)) rfl rfl rfl (hts _ (rk_mt 223 (by decide +kernel) rfl)) (hts _ (rk_mt 280 (by decide +kernel) rfl)) ⟨(by decide +kernel), (by decide +kernel), (by decide +kernel)⟩ ⟨Nat.le_of_ble_eq_true rfl, Nat.le_of_ble_eq_true rfl⟩, hts _ (rk_mt 281 (by decide +kernel) rfl)⟩ ⟨sg_blind _ _ _ _, fun U hU hW => ⟨rfl, by rw [hU], sg_pre hX0 hS hA hU hW⟩⟩ rfl rfl hl.1 rfl (lv_room (Nat.le_of_ble_eq_true rfl)) sg_d382_3 ⟨Nat.zero_le _, Nat.zero_le _⟩) hS (fun q h1 h2 => absurd h2 (by omega)) (fun q h => Nat.le_trans hS.1 h) (fun u t H1 locs1 ht hvm hw hB hz1 hk1 hS => ?_)
  refine lv_aload_n hx hb sg_d382_6 rfl (lv_at hl 0 rfl) ?_
  refine lv_iload_n hx hb sg_d382_7 rfl (lv_at hl 1 rfl) ?_
  refine va_tb (v := .int (sg_b.getD k 0)) hx hb hT hS (nI_in hk hn) (by rw [nI_clamp (by omega)]) sg_d382_8 ?_
  refine lv_sipush (v := 255) hx hb sg_d382_9 (by decide) ?_
  have hall : (sg_b.getD k 0) &&& 255 = sg_b.getD k 0 ∧ ((sg_b.getD k 0).toUInt32 % 65536).toInt32 = sg_b.getD k 0 ∧ narrow .char (.int (sg_b.getD k 0)) = .int (sg_b.getD k 0) := by
    have h9 := List.all_eq_true.mp (show (List.range sg_n).all (fun k => decide ((sg_b.getD k 0) &&& 255 = sg_b.getD k 0 ∧ ((sg_b.getD k 0).toUInt32 % 65536).toInt32 = sg_b.getD k 0 ∧ narrow .char (.int (sg_b.getD k 0)) = .int (sg_b.getD k 0))) = true from by decide +kernel) k (List.mem_range.mpr hk)
    exact of_decide_eq_true h9
  refine lv_iand hx hb sg_d382_12 ?_
  rw [hall.1]
  refine lv_i2c hx hb sg_d382_13 hall.2.1 ?_
  exact W.zret (ty := .char) (v := sg_b.getD k 0) hx hb hr hall.2.2 (fun t ht hW => ⟨⟨_, (), rfl, rfl, trivial⟩, hS.F ht⟩) hS.2.2 sg_d382_14
set_option maxHeartbeats 1000000 in
theorem sg_charAt (l : Launch) (a v sz : Nat) (k : Nat) (hk : k < sg_n) : Met l gk_y_378 (Jvm.Cond.code gk_y_378 gk_N378.2.2 2 (some .char) :: gk_tbl) { frames := 4, cells := 0, slots := 0, locals := 160 } (sg_Pc [.ref a, .int (nI k)] a v sz) (sg_Q (sg_b.getD k 0) sz) 0 0 (fun q => sz ≤ q) := by
  refine Met.ofW (cc := gk_N378.2.2) (maxL := 2) (ret := (some .char)) (by decide +kernel) rfl ?_
  intro p e s m args below meth c s₁ B hml hv
  obtain ⟨rfl, hsz, hX⟩ := hv
  have hx := B.exec; have hb := B.bytes; have hr := B.returns; have hlocks := B.notSynchronized
  have hts : ∀ w ∈ gk_tbl, w.before (List.toArray [.ref a, .int (nI k)]) s = true := fun w hw => atoms_spec (ws := Jvm.Cond.code gk_y_378 gk_N378.2.2 2 (some .char) :: gk_tbl) B.pre w (List.mem_cons_of_mem _ hw)
  have hown : s.vm.findClass "java/lang/String" = some m.cls := findClass_of_methodNamed B.named
  subst hsz
  have hS : va_S (fun q => s.heap.size ≤ q) s.heap s.heap [] := va_S.rf
  have hA : ∀ q : Nat, s.heap.size ≤ q → s.heap.size ≤ q := fun _ h => h
  have hX0 := hX
  obtain ⟨hO, hC, hV, hT, hZ, hF⟩ := hX
  have hl := lv_entry [.ref a, .int (nI k)] (n := 2) (Nat.le_of_ble_eq_true rfl)
  rw [lg_entry_eq]
  generalize (lg_sl [.ref a, .int (nI k)] ++ List.replicate (2 - (lg_sl [.ref a, .int (nI k)]).length) Slot.unset).toArray = ls at hl ⊢
  have hl : lv_has ls 2 [(0, .ref a), (1, .int (nI k))] := hl
  refine lv_aload_n hx hb sg_d378_0 rfl (lv_at hl 0 rfl) ?_
  refine va_calli (va_runV (C := "java/lang/String") (As := []) (rest := []) ⟨hx, hb, hml, hown, hts⟩ (sg_isLatin1 l a v s.heap.size) ⟨callB_of 0 hts (rk_good gk_good (rk_mt 276 (by decide +kernel) rfl)) rfl rfl rfl (hts _ (rk_mt 223 (by decide +kernel) rfl)) (hts _ (rk_mt 273 (by decide +kernel) rfl)) ⟨(by decide +kernel), (by decide +kernel), (by decide +kernel)⟩ ⟨Nat.le_of_ble_eq_true rfl, Nat.le_of_ble_eq_true rfl⟩, hts _ (rk_mt 274 (by decide +kernel) rfl), hts _ (rk_mt 275 (by decide +kernel) rfl)⟩ ⟨sg_blind _ _ _ _, (by obtain ⟨cell, h1, h2, h3, -⟩ := hO.kept hS.2.1; exact ⟨cell, h1, h2, h3⟩), fun U hU hW => ⟨rfl, by rw [hU], sg_pre hX0 hS hA hU hW⟩⟩ rfl rfl hl.1 rfl (lv_room (Nat.le_of_ble_eq_true rfl)) sg_d378_1 ⟨Nat.zero_le _, Nat.zero_le _⟩) hS (fun q h1 h2 => absurd h2 (by omega)) (fun q h => Nat.le_trans hS.1 h) (fun r0 u t H1 locs1 ht hvm hw hB hz1 hk1 hS => ?_)
  subst hw
  refine lv_if_eq (tgt := 16) hx hb sg_d378_4 rfl (fun h => absurd h (by decide)) (fun _ => ?_)
  refine lv_aload_n hx hb sg_d378_7 rfl (lv_at hl 0 rfl) ?_
  refine vk_getf hx hb hV hS hown (hts _ (rk_mt 2476 (by decide +kernel) rfl)) (fun _ h => h) sg_d378_8 ?_
  refine lv_iload_n hx hb sg_d378_11 rfl (lv_at hl 1 rfl) ?_
  refine va_calli (va_runS (As := [.ref v, .int (nI k)]) (rest := []) ⟨hx, hb, hml, hown, hts⟩ (sg_lchar l a v H1.size k hk) ⟨callB_of 2 hts (rk_good gk_good (rk_mt 279 (by decide +kernel) rfl)) rfl rfl rfl (hts _ (rk_mt 224 (by decide +kernel) rfl)) (hts _ (rk_mt 277 (by decide +kernel) rfl)) ⟨(by decide +kernel), (by decide +kernel), (by decide +kernel)⟩ ⟨Nat.le_of_ble_eq_true rfl, Nat.le_of_ble_eq_true rfl⟩, hts _ (rk_mt 278 (by decide +kernel) rfl)⟩ ⟨sg_blind _ _ _ _, fun U hU hW => ⟨rfl, by rw [hU], sg_pre hX0 hS hA hU hW⟩⟩ rfl rfl hl.1 rfl (lv_room (Nat.le_of_ble_eq_true rfl)) sg_d378_12 ⟨Nat.zero_le _, Nat.zero_le _⟩) hS (fun q h1 h2 => absurd h2 (by omega)) (fun q h => Nat.le_trans hS.1 h) (fun r0 u t H1 locs1 ht hvm hw hB hz1 hk1 hS => ?_)
  subst hw
  have hn9 : narrow .char (.int (sg_b.getD k 0)) = .int (sg_b.getD k 0) := of_decide_eq_true (List.all_eq_true.mp (show (List.range sg_n).all (fun k => decide (narrow .char (.int (sg_b.getD k 0)) = .int (sg_b.getD k 0))) = true from by decide +kernel) k (List.mem_range.mpr hk))
  exact W.zret (ty := .char) (v := sg_b.getD k 0) hx hb hr hn9 (fun t ht hW => ⟨⟨_, (), rfl, rfl, trivial⟩, hS.F ht⟩) hS.2.2 sg_d378_15
