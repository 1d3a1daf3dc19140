section
/-! ===== rows of references to rows (new T[n][m]): the word is kept ===== -/
def va_AOA (ty : FieldType) (U : State) : Prop := (Cond.arrayOver (.array ty)).before #[] U = true
theorem va_AOA.of {ty : FieldType} {A : Array Value} {U : State} (h : (Cond.arrayOver (.array ty)).before A U = true) : va_AOA ty U := h
theorem va_AOA.use {ty : FieldType} {A : Array Value} {U : State} (h : va_AOA ty U) : (Cond.arrayOver (.array ty)).before A U = true := h
theorem vb_idx_bare (vm : Vm) (comp : ClassId) : (vm.bare.classes.findIdx? fun (x : Class) => match x.kind with | .array component _ => component == comp | _ => false) = (vm.classes.findIdx? fun (x : Class) => match x.kind with | .array component _ => component == comp | _ => false) := va_idx_bare vm comp
theorem va_AOA.moved {ty : FieldType} {u U : State} (hvm : u.vm.Alike U.vm) (h : va_AOA ty u) : va_AOA ty U := by
  obtain ⟨comp, c, k, h1, h2, h3, h4, h5⟩ := Jvm.Stand.arrayOver_specB h
  obtain ⟨k', hk', he⟩ := hvm.2.2 _ _ h3
  have hi : (U.vm.classes.findIdx? fun (x : Class) => match x.kind with | .array component _ => component == comp | _ => false) = some c := by
    rw [← vb_idx_bare]
    first | rw [hvm.bare_eq] | rw [← hvm.bare_eq]
    rw [vb_idx_bare]
    exact h2
  have hkind : k'.kind = .array comp (.array ty) := by rw [he]; exact h4
  have f1 : U.vm.findClass (FieldType.array ty).toString = some comp := by rw [hvm.findClass]; exact h1
  have f2 : U.vm.findClass ("[" ++ (FieldType.array ty).toString) = some c := by rw [hvm.findClass]; exact h5
  unfold va_AOA Cond.before Cond.holds
  simp only [Cond.value]
  rw [f1, Option.bind_some]
  refine (congrArg (fun o : Option Nat => (o.bind (fun c => (U.vm.classes[c]?).map fun (k : Class) => match k.kind with | .array _ ty' => decide (ty' = FieldType.array ty) && decide (U.vm.findClass ("[" ++ (FieldType.array ty).toString) = some c) | _ => false) == some true)) hi).trans ?_
  simp [hk', hkind, f2]
/-! ===== BEGIN new T[n][m]: the outer array a place, the inner ones among the pooled ===== -/
/-- f, but v at every address of l -/
def vr_up {α : Type} (f : Nat → α) (l : List Nat) (v : α) : Nat → α := fun a => if a ∈ l then v else f a
theorem vr_up_in {α : Type} {f : Nat → α} {l : List Nat} {v : α} {a : Nat} (h : a ∈ l) : vr_up f l v a = v := if_pos h
theorem vr_up_ne {α : Type} {f : Nat → α} {l : List Nat} {v : α} {a : Nat} (h : a ∉ l) : vr_up f l v a = f a := if_neg h
theorem vr_rows {L l : List Nat} {f : Nat → va_E} {e : va_E} (h : ∀ a, a ∈ l → a ∉ L) : va_pl L f ++ l.map (fun a => (a, e)) = va_pl (L ++ l) (vr_up f l e) := by
  unfold va_pl
  rw [List.map_append]
  congr 1
  · apply List.map_congr_left
    intro a ha
    rw [vr_up_ne (fun q => h a q ha)]
  · apply List.map_congr_left
    intro a ha
    rw [vr_up_in ha]
theorem vr_lay {X rows : va_W} {x : Nat × va_E} {pl : va_W} {D : va_G} {cl : List vw_C} {H : Heap} (hP : va_P D cl (((X ++ pl) ++ [x]) ++ rows) H) : va_P D cl ((X ++ [x]) ++ (pl ++ rows)) H := by
  rw [List.append_assoc (X ++ pl)] at hP
  have h := va_P.swap hP
  rw [← List.append_assoc X] at h
  have h2 := va_P.swap h
  rw [List.append_assoc (X ++ [x])] at h2
  exact h2
theorem vr_layD {X rows : va_W} {x : Nat × va_E} {pl : va_W} {A : Nat → Prop} (hD : va_D A (((X ++ pl) ++ [x]) ++ rows)) : va_D A ((X ++ [x]) ++ (pl ++ rows)) := by
  rw [List.append_assoc (X ++ pl)] at hD
  have h := va_D.swap hD
  rw [← List.append_assoc X] at h
  have h2 := va_D.swap h
  rw [List.append_assoc (X ++ [x])] at h2
  exact h2
theorem vr_outer (c : ClassId) (N h0 : Nat) : ∀ i : Nat, Jvm.Free.Multi.outerC c N h0 i = arrV c N (fun j => va_rf (if j < i then some (h0 + 1 + j) else none))
  | 0 => by
    show ({ cls := c, slots := Array.replicate N .null, vm := .none } : Cell) = _
    rw [arrV_new]
    refine congrArg (arrV c N) (funext fun j => ?_)
    simp [va_rf]
  | i + 1 => by
    show (Jvm.Free.Multi.outerC c N h0 i).setSlot i (.ref (h0 + 1 + i)) = _
    rw [vr_outer c N h0 i, arrV_store]
    refine congrArg (arrV c N) (funext fun j => ?_)
    by_cases e : j = i
    · subst e
      simp [updV, va_rf]
    · by_cases h : j < i
      · simp [updV, e, h, Nat.lt_succ_of_lt h]
      · simp [updV, e, h, show ¬ j < i + 1 by omega]
section VGM
variable {p : Program} {l : Launch} {e : Env} {R : Room} {s : State} {m : MethodId} {args : Array Value} {below : List Frame} {meth : Method} {c : Code} {H : Heap} {locs : List Loc} {cells slots : Nat} {Q : State → Prop}
variable {cc : ByteArray} {pc : Nat} {ls : Array Slot} {rest : List Value} {D : va_G} {cl : List vw_C} {A : Nat → Prop} {a : Nat} {tys : List (ClassId × FieldType)} {ws : va_W} {H0 : Heap}
theorem va_mna {X : va_W} {L : List Nat} {f : Nat → va_E} {cc : ByteArray} (hexec : p.tables.exec = Jvm.exec) (hb : c.code = cc) {own : String} {index : Nat} {ty : FieldType} {cy : ClassId} (hown : s.vm.findClass own = some m.cls) (hclink : (Cond.classLink own index ("[" ++ (FieldType.array ty).toString)).before args s = true) (hover : va_AOA ty s) (harr : (Cond.arrayClass ty).before args s = true) (hcy : s.vm.findClass (FieldType.array ty).toString = some cy)
    (hK : va_K D cl tys s) (hP : va_P D cl (X ++ va_pl L f) H) (hD : va_D A (X ++ va_pl L f)) (hS : va_S A H0 H locs) (hA : ∀ q, H0.size ≤ q → A q) {n k : Int32} {N' K' : Nat} {z : vp_A} (hn : ¬ n < 0) (hk : ¬ k < 0) (hN : n.toNatClampNeg = N') (hM : k.toNatClampNeg = K')
    (hb1 : N' * 4 ≤ 536870912) (hb2 : K' * componentBytes ty ≤ 536870912) (hb3 : K' ≤ 536870912) (hdf : fits ty (defaultValue ty) = true) (hdd : (defaultValue ty).isDefault = true) (hcells : cells + (1 + N') ≤ R.cells) (hslots : slots + (N' + N' * K') ≤ R.slots) (hz : ∀ c : ClassId, Jvm.Free.Multi.innerC c K' (defaultValue ty) = vp_cell c z) (hdg : decode cc pc = .ok (.multianewarray index 2, 4))
    (kk : ∀ (q : Nat) (r : Nat → Nat) (cA : ClassId) (H1 : Heap), (∀ i j : Nat, i < N' → j < N' → r i = r j → i = j) → (∀ i : Nat, i < N' → r i ∉ L) → va_K D cl (tys ++ [(cA, .array ty)]) s →
      va_P D cl ((X ++ [(q, .inl (cA, N', .inr (.inr (.inr (.inr (fun i => if i < N' then some (r i) else none))))))]) ++ va_pl (L ++ (List.range N').map r) (vr_up f ((List.range N').map r) (.inl (cy, z)))) H1 → va_D A ((X ++ [(q, .inl (cA, N', .inr (.inr (.inr (.inr (fun i => if i < N' then some (r i) else none))))))]) ++ va_pl (L ++ (List.range N').map r) (vr_up f ((List.range N').map r) (.inl (cy, z)))) → va_S A H0 H1 locs →
      W p l e R s m args below meth c H1 locs (cells + 1 + N') (slots + N' + N' * K') Q (F0 m (pc + 4) ls (.ref q :: rest))) : W p l e R s m args below meth c H locs cells slots Q (F0 m pc ls (.int k :: .int n :: rest)) := by
  subst hN
  subst hM
  intro T hT Xs
  obtain ⟨vm₁, cA, comp, -, fA, fC, hO, -, X', step⟩ := Xs.multianewarray2F hexec hown hclink (va_AOA.use hover) harr (g := F0 m pc ls (.int k :: .int n :: rest)) rfl (by rw [hb]; exact hdg) rfl hn hk hb1 hb2 hb3 hdf hdd hcells hslots
  have ec : some cy = some comp := hcy.symm.trans fC
  cases ec
  generalize hF : Jvm.Free.Multi.fill (T.setVm vm₁) cA cy n.toNatClampNeg k.toNatClampNeg (defaultValue ty) n.toNatClampNeg = F at X' step
  have hTh : (T.setVm vm₁).heap = H := hT
  obtain ⟨f1, f2, -, -⟩ := Jvm.Free.Multi.fill_facts (T.setVm vm₁) cA cy n.toNatClampNeg k.toNatClampNeg (defaultValue ty) n.toNatClampNeg
  rw [hF, hTh] at f1 f2
  have hold : ∀ x : Nat, x < H.size → F.heap[x]? = H[x]? := fun x hx => by
    have := Jvm.Free.Multi.fill_old (T.setVm vm₁) cA cy n.toNatClampNeg k.toNatClampNeg (defaultValue ty) (a := x) (by rw [hTh]; exact hx) n.toNatClampNeg
    rw [hF, hTh] at this
    exact this
  have hrow : ∀ j : Nat, j < n.toNatClampNeg → F.heap[H.size + 1 + j]? = some (vp_cell cy z) := fun j hj => by
    have := Jvm.Free.Multi.fill_inner (T.setVm vm₁) cA cy n.toNatClampNeg k.toNatClampNeg (defaultValue ty) n.toNatClampNeg j hj
    rw [hF, hTh, hz] at this
    exact this
  have hout : Jvm.Free.Multi.outerC cA n.toNatClampNeg H.size n.toNatClampNeg = vp_cell cA (n.toNatClampNeg, .inr (.inr (.inr (.inr (fun i => if i < n.toNatClampNeg then some (H.size + 1 + i) else none))))) := by
    rw [vp_cell_q]
    exact vr_outer cA n.toNatClampNeg H.size n.toNatClampNeg
  rw [hout] at f2
  have hlt : ∀ a, a ∈ L → a < H.size := fun a ha => by
    obtain ⟨k9, hk9⟩ := va_pl_get (X := X) (f := f) ha
    exact (hP k9 _ hk9).lt
  have hnl : ∀ i : Nat, i < n.toNatClampNeg → H.size + 1 + i ∉ L := fun i _ h => by
    have := hlt _ h
    omega
  have hnm : ∀ a, a ∈ (List.range n.toNatClampNeg).map (fun i => H.size + 1 + i) → a ∉ L := fun a ha h => by
    obtain ⟨i, -, rfl⟩ := List.mem_map.mp ha
    have := hlt _ h
    omega
  have hP0 : va_P D cl (X ++ va_pl L f) F.heap := hP.kept (fun k9 x hx => hold x.1 ((hP k9 x hx).lt))
  have hP1 : va_P D cl ((X ++ va_pl L f) ++ [(H.size, .inl (cA, n.toNatClampNeg, .inr (.inr (.inr (.inr (fun i => if i < n.toNatClampNeg then some (H.size + 1 + i) else none))))))]) F.heap := hP0.app (fun k9 x hx => by
    have h0 : k9 < 1 := (List.getElem?_eq_some_iff.mp hx).1
    rw [show k9 = 0 by omega] at hx
    cases hx
    exact f2)
  have hP2 : va_P D cl (((X ++ va_pl L f) ++ [(H.size, .inl (cA, n.toNatClampNeg, .inr (.inr (.inr (.inr (fun i => if i < n.toNatClampNeg then some (H.size + 1 + i) else none))))))]) ++ ((List.range n.toNatClampNeg).map (fun i => H.size + 1 + i)).map (fun a => (a, .inl (cy, z)))) F.heap := hP1.app (fun k9 x hx => by
    obtain ⟨a, ha, rfl⟩ := List.mem_map.mp (List.mem_of_getElem? hx)
    obtain ⟨i, hi, rfl⟩ := List.mem_map.mp ha
    exact hrow i (List.mem_range.mp hi))
  have hD2 : va_D A (((X ++ va_pl L f) ++ [(H.size, .inl (cA, n.toNatClampNeg, .inr (.inr (.inr (.inr (fun i => if i < n.toNatClampNeg then some (H.size + 1 + i) else none))))))]) ++ ((List.range n.toNatClampNeg).map (fun i => H.size + 1 + i)).map (fun a => (a, .inl (cy, z)))) := by
    have hD1 := hD.push (e := .inl (cA, n.toNatClampNeg, .inr (.inr (.inr (.inr (fun i => if i < n.toNatClampNeg then some (H.size + 1 + i) else none)))))) hP rfl (hA _ hS.1)
    generalize hW1 : (X ++ va_pl L f) ++ [(H.size, .inl (cA, n.toNatClampNeg, .inr (.inr (.inr (.inr (fun i => if i < n.toNatClampNeg then some (H.size + 1 + i) else none))))))] = W1 at hD1 hP1 ⊢
    have hle : ∀ (k9 : Nat) (x : Nat × va_E), W1[k9]? = some x → x.1 ≤ H.size := fun k9 x hx => by
      rw [← hW1] at hx
      by_cases hl : k9 < (X ++ va_pl L f).length
      · rw [List.getElem?_append_left hl] at hx
        exact Nat.le_of_lt ((hP k9 x hx).lt)
      · rw [List.getElem?_append_right (by omega)] at hx
        have h0 : k9 - (X ++ va_pl L f).length < 1 := (List.getElem?_eq_some_iff.mp hx).1
        rw [show k9 - (X ++ va_pl L f).length = 0 by omega] at hx
        cases hx
        exact Nat.le_refl _
    have hr : ∀ (k9 : Nat) (x : Nat × va_E), (((List.range n.toNatClampNeg).map (fun i => H.size + 1 + i)).map (fun a => ((a, .inl (cy, z)) : Nat × va_E)))[k9]? = some x → x.1 = H.size + 1 + k9 := fun k9 x hx => by
      rw [List.getElem?_map, List.getElem?_map] at hx
      by_cases h9 : k9 < n.toNatClampNeg
      · rw [List.getElem?_range h9] at hx
        cases hx
        rfl
      · have hn0 : (List.range n.toNatClampNeg)[k9]? = none := List.getElem?_eq_none (by rw [List.length_range]; omega)
        rw [hn0] at hx
        cases hx
    refine ⟨fun i j x y hi hj hxy => ?_, fun k9 x hx => ?_⟩
    · by_cases h1 : i < W1.length <;> by_cases h2 : j < W1.length
      · rw [List.getElem?_append_left h1] at hi
        rw [List.getElem?_append_left h2] at hj
        exact hD1.1 i j x y hi hj hxy
      · rw [List.getElem?_append_left h1] at hi
        rw [List.getElem?_append_right (by omega)] at hj
        have := hle _ _ hi
        have := hr _ _ hj
        omega
      · rw [List.getElem?_append_right (by omega)] at hi
        rw [List.getElem?_append_left h2] at hj
        have := hle _ _ hj
        have := hr _ _ hi
        omega
      · rw [List.getElem?_append_right (by omega)] at hi hj
        have := hr _ _ hi
        have := hr _ _ hj
        omega
    · by_cases h1 : k9 < W1.length
      · rw [List.getElem?_append_left h1] at hx
        exact hD1.2 k9 x hx
      · rw [List.getElem?_append_right (by omega)] at hx
        have := hr _ _ hx
        exact hA _ (by have := hS.1; omega)
  have hAr : ArrOfT s cA (.array ty) := fun N9 z9 => by
    obtain ⟨-, k9, hk9, cm9, hkk9⟩ := (hO 0 0 0).1
    exact ⟨(fun q hq => by cases hq), k9, hk9, cm9, hkk9⟩
  have hK2 : va_K D cl (tys ++ [(cA, .array ty)]) s := ⟨hK.1, fun k9 x hx => by
    by_cases hl : k9 < tys.length
    · rw [List.getElem?_append_left hl] at hx
      exact hK.2 k9 x hx
    · rw [List.getElem?_append_right (by omega)] at hx
      have h0 : k9 - tys.length < 1 := (List.getElem?_eq_some_iff.mp hx).1
      rw [show k9 - tys.length = 0 by omega] at hx
      cases hx
      exact ⟨hAr, fA⟩⟩
  obtain ⟨t, a1, b1⟩ := kk H.size (fun i => H.size + 1 + i) cA F.heap (fun i j _ _ h => by have h9 : H.size + 1 + i = H.size + 1 + j := h; omega) hnl hK2 (by rw [← vr_rows hnm]; exact vr_lay hP2) (by rw [← vr_rows hnm]; exact vr_layD hD2) ⟨by rw [f1]; have := hS.1; omega, fun x h1 h2 => (hold x (Nat.lt_of_lt_of_le h1 hS.1)).trans (hS.2.1 x h1 h2), hS.2.2⟩ F rfl X'
  refine ⟨t, step t ?_, b1⟩
  have e : T.heap.size = H.size := by rw [hT]
  rw [e]
  exact a1
end VGM
/-! ===== END ===== -/
end
section
-- ===== PART A: goes FIRST, ahead of the names: the tables' words, and 'selects' of the private methods out of them =====
/-- a private method of a class that the tables say can be made, by its rows of tables_1 -/
def lw_okq (q : MethodName × Nat) : Prop := (q.1.cls ≠ "java/lang/invoke/MethodHandle" ∧ q.1.cls ≠ "java/lang/invoke/VarHandle") ∧ Cond.instantiable q.1.cls q.2 ∈ tables_1 ∧ Cond.privateMethod q.1 ∈ tables_1 ∧ Cond.instanceMethod q.1 ∈ tables_1
theorem lw_p0 : lw_okq (⟨"GooseIce", "deny", "(I)Z"⟩, 20) := ⟨⟨by decide +kernel, by decide +kernel⟩, List.mem_of_getElem? (i := 23) (by decide +kernel), List.mem_of_getElem? (i := 609) (by decide +kernel), List.mem_of_getElem? (i := 610) (by decide +kernel)⟩
theorem lw_p1 : lw_okq (⟨"GooseIce", "agree", "()Z"⟩, 20) := ⟨⟨by decide +kernel, by decide +kernel⟩, List.mem_of_getElem? (i := 23) (by decide +kernel), List.mem_of_getElem? (i := 616) (by decide +kernel), List.mem_of_getElem? (i := 617) (by decide +kernel)⟩
theorem lw_p2 : lw_okq (⟨"GooseIce", "placeTrouble", "(II)I"⟩, 20) := ⟨⟨by decide +kernel, by decide +kernel⟩, List.mem_of_getElem? (i := 23) (by decide +kernel), List.mem_of_getElem? (i := 624) (by decide +kernel), List.mem_of_getElem? (i := 625) (by decide +kernel)⟩
theorem lw_p3 : lw_okq (⟨"GooseIce", "refuse", "(I)I"⟩, 20) := ⟨⟨by decide +kernel, by decide +kernel⟩, List.mem_of_getElem? (i := 23) (by decide +kernel), List.mem_of_getElem? (i := 635) (by decide +kernel), List.mem_of_getElem? (i := 636) (by decide +kernel)⟩
theorem lw_p4 : lw_okq (⟨"GooseIce$Reader", "hasRoom", "()Z"⟩, 12) := ⟨⟨by decide +kernel, by decide +kernel⟩, List.mem_of_getElem? (i := 33) (by decide +kernel), List.mem_of_getElem? (i := 650) (by decide +kernel), List.mem_of_getElem? (i := 651) (by decide +kernel)⟩
theorem lw_p5 : lw_okq (⟨"GooseIce$Reader", "take", "(I)V"⟩, 12) := ⟨⟨by decide +kernel, by decide +kernel⟩, List.mem_of_getElem? (i := 33) (by decide +kernel), List.mem_of_getElem? (i := 654) (by decide +kernel), List.mem_of_getElem? (i := 655) (by decide +kernel)⟩
theorem lw_p6 : lw_okq (⟨"GooseIce$Reader", "open", "(I)V"⟩, 12) := ⟨⟨by decide +kernel, by decide +kernel⟩, List.mem_of_getElem? (i := 33) (by decide +kernel), List.mem_of_getElem? (i := 662) (by decide +kernel), List.mem_of_getElem? (i := 663) (by decide +kernel)⟩
theorem lw_p7 : lw_okq (⟨"GooseIce$Reader", "scan", "()V"⟩, 12) := ⟨⟨by decide +kernel, by decide +kernel⟩, List.mem_of_getElem? (i := 33) (by decide +kernel), List.mem_of_getElem? (i := 666) (by decide +kernel), List.mem_of_getElem? (i := 667) (by decide +kernel)⟩
theorem lw_p8 : lw_okq (⟨"GooseIce$Reader", "signAt", "(I)I"⟩, 12) := ⟨⟨by decide +kernel, by decide +kernel⟩, List.mem_of_getElem? (i := 33) (by decide +kernel), List.mem_of_getElem? (i := 670) (by decide +kernel), List.mem_of_getElem? (i := 671) (by decide +kernel)⟩
theorem lw_p9 : lw_okq (⟨"GooseIce$Reader", "scanWord", "()V"⟩, 12) := ⟨⟨by decide +kernel, by decide +kernel⟩, List.mem_of_getElem? (i := 33) (by decide +kernel), List.mem_of_getElem? (i := 674) (by decide +kernel), List.mem_of_getElem? (i := 675) (by decide +kernel)⟩
theorem lw_p10 : lw_okq (⟨"GooseIce$Reader", "scanNumber", "()V"⟩, 12) := ⟨⟨by decide +kernel, by decide +kernel⟩, List.mem_of_getElem? (i := 33) (by decide +kernel), List.mem_of_getElem? (i := 678) (by decide +kernel), List.mem_of_getElem? (i := 679) (by decide +kernel)⟩
theorem lw_p11 : lw_okq (⟨"GooseIce$LakeText", "parse", "(LGooseIce$Lake;)V"⟩, 2) := ⟨⟨by decide +kernel, by decide +kernel⟩, List.mem_of_getElem? (i := 139) (by decide +kernel), List.mem_of_getElem? (i := 682) (by decide +kernel), List.mem_of_getElem? (i := 683) (by decide +kernel)⟩
theorem lw_p12 : lw_okq (⟨"GooseIce$Lake", "clear", "()V"⟩, 14) := ⟨⟨by decide +kernel, by decide +kernel⟩, List.mem_of_getElem? (i := 168) (by decide +kernel), List.mem_of_getElem? (i := 686) (by decide +kernel), List.mem_of_getElem? (i := 687) (by decide +kernel)⟩
theorem lw_p13 : lw_okq (⟨"GooseIce$Ice", "clear", "()V"⟩, 6) := ⟨⟨by decide +kernel, by decide +kernel⟩, List.mem_of_getElem? (i := 174) (by decide +kernel), List.mem_of_getElem? (i := 691) (by decide +kernel), List.mem_of_getElem? (i := 692) (by decide +kernel)⟩
theorem lw_p14 : lw_okq (⟨"GooseIce$Crew", "clear", "()V"⟩, 10) := ⟨⟨by decide +kernel, by decide +kernel⟩, List.mem_of_getElem? (i := 210) (by decide +kernel), List.mem_of_getElem? (i := 696) (by decide +kernel), List.mem_of_getElem? (i := 697) (by decide +kernel)⟩
theorem lw_p15 : lw_okq (⟨"GooseIce$LakeText", "readPart", "(LGooseIce$Lake;)V"⟩, 2) := ⟨⟨by decide +kernel, by decide +kernel⟩, List.mem_of_getElem? (i := 139) (by decide +kernel), List.mem_of_getElem? (i := 701) (by decide +kernel), List.mem_of_getElem? (i := 702) (by decide +kernel)⟩
def lw_privs_1 : List (MethodName × Nat) := [(⟨"GooseIce", "deny", "(I)Z"⟩, 20), (⟨"GooseIce", "agree", "()Z"⟩, 20), (⟨"GooseIce", "placeTrouble", "(II)I"⟩, 20), (⟨"GooseIce", "refuse", "(I)I"⟩, 20), (⟨"GooseIce$Reader", "hasRoom", "()Z"⟩, 12), (⟨"GooseIce$Reader", "take", "(I)V"⟩, 12), (⟨"GooseIce$Reader", "open", "(I)V"⟩, 12), (⟨"GooseIce$Reader", "scan", "()V"⟩, 12), (⟨"GooseIce$Reader", "signAt", "(I)I"⟩, 12), (⟨"GooseIce$Reader", "scanWord", "()V"⟩, 12), (⟨"GooseIce$Reader", "scanNumber", "()V"⟩, 12), (⟨"GooseIce$LakeText", "parse", "(LGooseIce$Lake;)V"⟩, 2), (⟨"GooseIce$Lake", "clear", "()V"⟩, 14), (⟨"GooseIce$Ice", "clear", "()V"⟩, 6), (⟨"GooseIce$Crew", "clear", "()V"⟩, 10), (⟨"GooseIce$LakeText", "readPart", "(LGooseIce$Lake;)V"⟩, 2)]
theorem lw_r1 : ∀ q ∈ lw_privs_1, lw_okq q := List.forall_mem_cons.mpr ⟨lw_p0, List.forall_mem_cons.mpr ⟨lw_p1, List.forall_mem_cons.mpr ⟨lw_p2, List.forall_mem_cons.mpr ⟨lw_p3, List.forall_mem_cons.mpr ⟨lw_p4, List.forall_mem_cons.mpr ⟨lw_p5, List.forall_mem_cons.mpr ⟨lw_p6, List.forall_mem_cons.mpr ⟨lw_p7, List.forall_mem_cons.mpr ⟨lw_p8, List.forall_mem_cons.mpr ⟨lw_p9, List.forall_mem_cons.mpr ⟨lw_p10, List.forall_mem_cons.mpr ⟨lw_p11, List.forall_mem_cons.mpr ⟨lw_p12, List.forall_mem_cons.mpr ⟨lw_p13, List.forall_mem_cons.mpr ⟨lw_p14, List.forall_mem_cons.mpr ⟨lw_p15, fun _ h => absurd h List.not_mem_nil⟩⟩⟩⟩⟩⟩⟩⟩⟩⟩⟩⟩⟩⟩⟩⟩
theorem lw_p16 : lw_okq (⟨"GooseIce$LakeText", "readCell", "(LGooseIce$Lake;Z)V"⟩, 2) := ⟨⟨by decide +kernel, by decide +kernel⟩, List.mem_of_getElem? (i := 139) (by decide +kernel), List.mem_of_getElem? (i := 705) (by decide +kernel), List.mem_of_getElem? (i := 706) (by decide +kernel)⟩
theorem lw_p17 : lw_okq (⟨"GooseIce$Reader", "fail", "(I)V"⟩, 12) := ⟨⟨by decide +kernel, by decide +kernel⟩, List.mem_of_getElem? (i := 33) (by decide +kernel), List.mem_of_getElem? (i := 709) (by decide +kernel), List.mem_of_getElem? (i := 710) (by decide +kernel)⟩
theorem lw_p18 : lw_okq (⟨"GooseIce$LakeText", "readNewName", "(LGooseIce$Lake;)J"⟩, 2) := ⟨⟨by decide +kernel, by decide +kernel⟩, List.mem_of_getElem? (i := 139) (by decide +kernel), List.mem_of_getElem? (i := 714) (by decide +kernel), List.mem_of_getElem? (i := 715) (by decide +kernel)⟩
theorem lw_p19 : lw_okq (⟨"GooseIce$Reader", "nameHere", "()J"⟩, 12) := ⟨⟨by decide +kernel, by decide +kernel⟩, List.mem_of_getElem? (i := 33) (by decide +kernel), List.mem_of_getElem? (i := 718) (by decide +kernel), List.mem_of_getElem? (i := 719) (by decide +kernel)⟩
theorem lw_p20 : lw_okq (⟨"GooseIce$Reader", "misfit", "()V"⟩, 12) := ⟨⟨by decide +kernel, by decide +kernel⟩, List.mem_of_getElem? (i := 33) (by decide +kernel), List.mem_of_getElem? (i := 722) (by decide +kernel), List.mem_of_getElem? (i := 723) (by decide +kernel)⟩
theorem lw_p21 : lw_okq (⟨"GooseIce$Lake", "named", "(J)I"⟩, 14) := ⟨⟨by decide +kernel, by decide +kernel⟩, List.mem_of_getElem? (i := 168) (by decide +kernel), List.mem_of_getElem? (i := 727) (by decide +kernel), List.mem_of_getElem? (i := 728) (by decide +kernel)⟩
theorem lw_p22 : lw_okq (⟨"GooseIce$Crew", "named", "(J)I"⟩, 10) := ⟨⟨by decide +kernel, by decide +kernel⟩, List.mem_of_getElem? (i := 210) (by decide +kernel), List.mem_of_getElem? (i := 731) (by decide +kernel), List.mem_of_getElem? (i := 732) (by decide +kernel)⟩
theorem lw_p23 : lw_okq (⟨"GooseIce$Reader", "passWord", "(I)V"⟩, 12) := ⟨⟨by decide +kernel, by decide +kernel⟩, List.mem_of_getElem? (i := 33) (by decide +kernel), List.mem_of_getElem? (i := 735) (by decide +kernel), List.mem_of_getElem? (i := 736) (by decide +kernel)⟩
theorem lw_p24 : lw_okq (⟨"GooseIce$Reader", "passNumber", "(II)I"⟩, 12) := ⟨⟨by decide +kernel, by decide +kernel⟩, List.mem_of_getElem? (i := 33) (by decide +kernel), List.mem_of_getElem? (i := 739) (by decide +kernel), List.mem_of_getElem? (i := 740) (by decide +kernel)⟩
theorem lw_p25 : lw_okq (⟨"GooseIce$Reader", "passSign", "(I)Z"⟩, 12) := ⟨⟨by decide +kernel, by decide +kernel⟩, List.mem_of_getElem? (i := 33) (by decide +kernel), List.mem_of_getElem? (i := 743) (by decide +kernel), List.mem_of_getElem? (i := 744) (by decide +kernel)⟩
theorem lw_p26 : lw_okq (⟨"GooseIce$Lake", "addCell", "(JZI)V"⟩, 14) := ⟨⟨by decide +kernel, by decide +kernel⟩, List.mem_of_getElem? (i := 168) (by decide +kernel), List.mem_of_getElem? (i := 747) (by decide +kernel), List.mem_of_getElem? (i := 748) (by decide +kernel)⟩
theorem lw_p27 : lw_okq (⟨"GooseIce$LakeText", "readPair", "(LGooseIce$Lake;Z)V"⟩, 2) := ⟨⟨by decide +kernel, by decide +kernel⟩, List.mem_of_getElem? (i := 139) (by decide +kernel), List.mem_of_getElem? (i := 751) (by decide +kernel), List.mem_of_getElem? (i := 752) (by decide +kernel)⟩
theorem lw_p28 : lw_okq (⟨"GooseIce$Reader", "cellHere", "(LGooseIce$Lake;)I"⟩, 12) := ⟨⟨by decide +kernel, by decide +kernel⟩, List.mem_of_getElem? (i := 33) (by decide +kernel), List.mem_of_getElem? (i := 755) (by decide +kernel), List.mem_of_getElem? (i := 756) (by decide +kernel)⟩
theorem lw_p29 : lw_okq (⟨"GooseIce$Lake", "isShore", "(I)Z"⟩, 14) := ⟨⟨by decide +kernel, by decide +kernel⟩, List.mem_of_getElem? (i := 168) (by decide +kernel), List.mem_of_getElem? (i := 761) (by decide +kernel), List.mem_of_getElem? (i := 762) (by decide +kernel)⟩
theorem lw_p30 : lw_okq (⟨"GooseIce$Lake", "isCell", "(I)Z"⟩, 14) := ⟨⟨by decide +kernel, by decide +kernel⟩, List.mem_of_getElem? (i := 168) (by decide +kernel), List.mem_of_getElem? (i := 765) (by decide +kernel), List.mem_of_getElem? (i := 766) (by decide +kernel)⟩
theorem lw_p31 : lw_okq (⟨"GooseIce$Lake", "isPair", "(II)Z"⟩, 14) := ⟨⟨by decide +kernel, by decide +kernel⟩, List.mem_of_getElem? (i := 168) (by decide +kernel), List.mem_of_getElem? (i := 769) (by decide +kernel), List.mem_of_getElem? (i := 770) (by decide +kernel)⟩
def lw_privs_2 : List (MethodName × Nat) := [(⟨"GooseIce$LakeText", "readCell", "(LGooseIce$Lake;Z)V"⟩, 2), (⟨"GooseIce$Reader", "fail", "(I)V"⟩, 12), (⟨"GooseIce$LakeText", "readNewName", "(LGooseIce$Lake;)J"⟩, 2), (⟨"GooseIce$Reader", "nameHere", "()J"⟩, 12), (⟨"GooseIce$Reader", "misfit", "()V"⟩, 12), (⟨"GooseIce$Lake", "named", "(J)I"⟩, 14), (⟨"GooseIce$Crew", "named", "(J)I"⟩, 10), (⟨"GooseIce$Reader", "passWord", "(I)V"⟩, 12), (⟨"GooseIce$Reader", "passNumber", "(II)I"⟩, 12), (⟨"GooseIce$Reader", "passSign", "(I)Z"⟩, 12), (⟨"GooseIce$Lake", "addCell", "(JZI)V"⟩, 14), (⟨"GooseIce$LakeText", "readPair", "(LGooseIce$Lake;Z)V"⟩, 2), (⟨"GooseIce$Reader", "cellHere", "(LGooseIce$Lake;)I"⟩, 12), (⟨"GooseIce$Lake", "isShore", "(I)Z"⟩, 14), (⟨"GooseIce$Lake", "isCell", "(I)Z"⟩, 14), (⟨"GooseIce$Lake", "isPair", "(II)Z"⟩, 14)]
theorem lw_r2 : ∀ q ∈ lw_privs_2, lw_okq q := List.forall_mem_cons.mpr ⟨lw_p16, List.forall_mem_cons.mpr ⟨lw_p17, List.forall_mem_cons.mpr ⟨lw_p18, List.forall_mem_cons.mpr ⟨lw_p19, List.forall_mem_cons.mpr ⟨lw_p20, List.forall_mem_cons.mpr ⟨lw_p21, List.forall_mem_cons.mpr ⟨lw_p22, List.forall_mem_cons.mpr ⟨lw_p23, List.forall_mem_cons.mpr ⟨lw_p24, List.forall_mem_cons.mpr ⟨lw_p25, List.forall_mem_cons.mpr ⟨lw_p26, List.forall_mem_cons.mpr ⟨lw_p27, List.forall_mem_cons.mpr ⟨lw_p28, List.forall_mem_cons.mpr ⟨lw_p29, List.forall_mem_cons.mpr ⟨lw_p30, List.forall_mem_cons.mpr ⟨lw_p31, fun _ h => absurd h List.not_mem_nil⟩⟩⟩⟩⟩⟩⟩⟩⟩⟩⟩⟩⟩⟩⟩⟩
theorem lw_p32 : lw_okq (⟨"GooseIce$LakeText", "readWalker", "(LGooseIce$Lake;)V"⟩, 2) := ⟨⟨by decide +kernel, by decide +kernel⟩, List.mem_of_getElem? (i := 139) (by decide +kernel), List.mem_of_getElem? (i := 773) (by decide +kernel), List.mem_of_getElem? (i := 774) (by decide +kernel)⟩
theorem lw_p33 : lw_okq (⟨"GooseIce$Lake", "addWalker", "(JII)V"⟩, 14) := ⟨⟨by decide +kernel, by decide +kernel⟩, List.mem_of_getElem? (i := 168) (by decide +kernel), List.mem_of_getElem? (i := 777) (by decide +kernel), List.mem_of_getElem? (i := 778) (by decide +kernel)⟩
theorem lw_p34 : lw_okq (⟨"GooseIce$LakeText", "readSetting", "(II)I"⟩, 2) := ⟨⟨by decide +kernel, by decide +kernel⟩, List.mem_of_getElem? (i := 139) (by decide +kernel), List.mem_of_getElem? (i := 781) (by decide +kernel), List.mem_of_getElem? (i := 782) (by decide +kernel)⟩
theorem lw_p35 : lw_okq (⟨"GooseIce$Lake", "copyFrom", "(LGooseIce$Lake;)V"⟩, 14) := ⟨⟨by decide +kernel, by decide +kernel⟩, List.mem_of_getElem? (i := 168) (by decide +kernel), List.mem_of_getElem? (i := 786) (by decide +kernel), List.mem_of_getElem? (i := 787) (by decide +kernel)⟩
theorem lw_p36 : lw_okq (⟨"GooseIce$Ice", "copyFrom", "(LGooseIce$Ice;)V"⟩, 6) := ⟨⟨by decide +kernel, by decide +kernel⟩, List.mem_of_getElem? (i := 174) (by decide +kernel), List.mem_of_getElem? (i := 791) (by decide +kernel), List.mem_of_getElem? (i := 792) (by decide +kernel)⟩
theorem lw_p37 : lw_okq (⟨"GooseIce$Crew", "copyFrom", "(LGooseIce$Crew;)V"⟩, 10) := ⟨⟨by decide +kernel, by decide +kernel⟩, List.mem_of_getElem? (i := 210) (by decide +kernel), List.mem_of_getElem? (i := 796) (by decide +kernel), List.mem_of_getElem? (i := 797) (by decide +kernel)⟩
theorem lw_p38 : lw_okq (⟨"GooseIce$Tales", "clear", "()V"⟩, 8) := ⟨⟨by decide +kernel, by decide +kernel⟩, List.mem_of_getElem? (i := 267) (by decide +kernel), List.mem_of_getElem? (i := 801) (by decide +kernel), List.mem_of_getElem? (i := 802) (by decide +kernel)⟩
theorem lw_p39 : lw_okq (⟨"GooseIce", "answer", "(I)I"⟩, 20) := ⟨⟨by decide +kernel, by decide +kernel⟩, List.mem_of_getElem? (i := 23) (by decide +kernel), List.mem_of_getElem? (i := 805) (by decide +kernel), List.mem_of_getElem? (i := 806) (by decide +kernel)⟩
theorem lw_p40 : lw_okq (⟨"GooseIce$TalesText", "parse", "(LGooseIce$Lake;LGooseIce$Tales;)V"⟩, 3) := ⟨⟨by decide +kernel, by decide +kernel⟩, List.mem_of_getElem? (i := 152) (by decide +kernel), List.mem_of_getElem? (i := 813) (by decide +kernel), List.mem_of_getElem? (i := 814) (by decide +kernel)⟩
theorem lw_p41 : lw_okq (⟨"GooseIce$TalesText", "readEnd", "(LGooseIce$Tales;)V"⟩, 3) := ⟨⟨by decide +kernel, by decide +kernel⟩, List.mem_of_getElem? (i := 152) (by decide +kernel), List.mem_of_getElem? (i := 818) (by decide +kernel), List.mem_of_getElem? (i := 819) (by decide +kernel)⟩
theorem lw_p42 : lw_okq (⟨"GooseIce$TalesText", "readStep", "(LGooseIce$Lake;LGooseIce$Tales;)V"⟩, 3) := ⟨⟨by decide +kernel, by decide +kernel⟩, List.mem_of_getElem? (i := 152) (by decide +kernel), List.mem_of_getElem? (i := 824) (by decide +kernel), List.mem_of_getElem? (i := 825) (by decide +kernel)⟩
theorem lw_p43 : lw_okq (⟨"GooseIce$TalesText", "readTest", "(LGooseIce$Lake;LGooseIce$Tales;I)V"⟩, 3) := ⟨⟨by decide +kernel, by decide +kernel⟩, List.mem_of_getElem? (i := 152) (by decide +kernel), List.mem_of_getElem? (i := 833) (by decide +kernel), List.mem_of_getElem? (i := 834) (by decide +kernel)⟩
theorem lw_p44 : lw_okq (⟨"GooseIce$Reader", "walkerHere", "(LGooseIce$Lake;)I"⟩, 12) := ⟨⟨by decide +kernel, by decide +kernel⟩, List.mem_of_getElem? (i := 33) (by decide +kernel), List.mem_of_getElem? (i := 838) (by decide +kernel), List.mem_of_getElem? (i := 839) (by decide +kernel)⟩
theorem lw_p45 : lw_okq (⟨"GooseIce$TalesText", "readCompares", "()I"⟩, 3) := ⟨⟨by decide +kernel, by decide +kernel⟩, List.mem_of_getElem? (i := 152) (by decide +kernel), List.mem_of_getElem? (i := 843) (by decide +kernel), List.mem_of_getElem? (i := 844) (by decide +kernel)⟩
theorem lw_p46 : lw_okq (⟨"GooseIce$TalesText", "readRest", "(LGooseIce$Lake;LGooseIce$Tales;II)V"⟩, 3) := ⟨⟨by decide +kernel, by decide +kernel⟩, List.mem_of_getElem? (i := 152) (by decide +kernel), List.mem_of_getElem? (i := 849) (by decide +kernel), List.mem_of_getElem? (i := 850) (by decide +kernel)⟩
theorem lw_p47 : lw_okq (⟨"GooseIce$Tales", "copyFrom", "(LGooseIce$Tales;)V"⟩, 8) := ⟨⟨by decide +kernel, by decide +kernel⟩, List.mem_of_getElem? (i := 267) (by decide +kernel), List.mem_of_getElem? (i := 853) (by decide +kernel), List.mem_of_getElem? (i := 854) (by decide +kernel)⟩
def lw_privs_3 : List (MethodName × Nat) := [(⟨"GooseIce$LakeText", "readWalker", "(LGooseIce$Lake;)V"⟩, 2), (⟨"GooseIce$Lake", "addWalker", "(JII)V"⟩, 14), (⟨"GooseIce$LakeText", "readSetting", "(II)I"⟩, 2), (⟨"GooseIce$Lake", "copyFrom", "(LGooseIce$Lake;)V"⟩, 14), (⟨"GooseIce$Ice", "copyFrom", "(LGooseIce$Ice;)V"⟩, 6), (⟨"GooseIce$Crew", "copyFrom", "(LGooseIce$Crew;)V"⟩, 10), (⟨"GooseIce$Tales", "clear", "()V"⟩, 8), (⟨"GooseIce", "answer", "(I)I"⟩, 20), (⟨"GooseIce$TalesText", "parse", "(LGooseIce$Lake;LGooseIce$Tales;)V"⟩, 3), (⟨"GooseIce$TalesText", "readEnd", "(LGooseIce$Tales;)V"⟩, 3), (⟨"GooseIce$TalesText", "readStep", "(LGooseIce$Lake;LGooseIce$Tales;)V"⟩, 3), (⟨"GooseIce$TalesText", "readTest", "(LGooseIce$Lake;LGooseIce$Tales;I)V"⟩, 3), (⟨"GooseIce$Reader", "walkerHere", "(LGooseIce$Lake;)I"⟩, 12), (⟨"GooseIce$TalesText", "readCompares", "()I"⟩, 3), (⟨"GooseIce$TalesText", "readRest", "(LGooseIce$Lake;LGooseIce$Tales;II)V"⟩, 3), (⟨"GooseIce$Tales", "copyFrom", "(LGooseIce$Tales;)V"⟩, 8)]
theorem lw_r3 : ∀ q ∈ lw_privs_3, lw_okq q := List.forall_mem_cons.mpr ⟨lw_p32, List.forall_mem_cons.mpr ⟨lw_p33, List.forall_mem_cons.mpr ⟨lw_p34, List.forall_mem_cons.mpr ⟨lw_p35, List.forall_mem_cons.mpr ⟨lw_p36, List.forall_mem_cons.mpr ⟨lw_p37, List.forall_mem_cons.mpr ⟨lw_p38, List.forall_mem_cons.mpr ⟨lw_p39, List.forall_mem_cons.mpr ⟨lw_p40, List.forall_mem_cons.mpr ⟨lw_p41, List.forall_mem_cons.mpr ⟨lw_p42, List.forall_mem_cons.mpr ⟨lw_p43, List.forall_mem_cons.mpr ⟨lw_p44, List.forall_mem_cons.mpr ⟨lw_p45, List.forall_mem_cons.mpr ⟨lw_p46, List.forall_mem_cons.mpr ⟨lw_p47, fun _ h => absurd h List.not_mem_nil⟩⟩⟩⟩⟩⟩⟩⟩⟩⟩⟩⟩⟩⟩⟩⟩
theorem lw_p48 : lw_okq (⟨"GooseIce$Lake", "isIce", "(I)Z"⟩, 14) := ⟨⟨by decide +kernel, by decide +kernel⟩, List.mem_of_getElem? (i := 168) (by decide +kernel), List.mem_of_getElem? (i := 870) (by decide +kernel), List.mem_of_getElem? (i := 871) (by decide +kernel)⟩
theorem lw_p49 : lw_okq (⟨"GooseIce$Lake", "strength", "(I)I"⟩, 14) := ⟨⟨by decide +kernel, by decide +kernel⟩, List.mem_of_getElem? (i := 168) (by decide +kernel), List.mem_of_getElem? (i := 874) (by decide +kernel), List.mem_of_getElem? (i := 875) (by decide +kernel)⟩
theorem lw_p50 : lw_okq (⟨"GooseIce$Lake", "load", "(II)I"⟩, 14) := ⟨⟨by decide +kernel, by decide +kernel⟩, List.mem_of_getElem? (i := 168) (by decide +kernel), List.mem_of_getElem? (i := 881) (by decide +kernel), List.mem_of_getElem? (i := 882) (by decide +kernel)⟩
theorem lw_p51 : lw_okq (⟨"GooseIce$Crew", "has", "(I)Z"⟩, 10) := ⟨⟨by decide +kernel, by decide +kernel⟩, List.mem_of_getElem? (i := 210) (by decide +kernel), List.mem_of_getElem? (i := 889) (by decide +kernel), List.mem_of_getElem? (i := 890) (by decide +kernel)⟩
theorem lw_p52 : lw_okq (⟨"GooseIce$Crew", "remaining", "(I)I"⟩, 10) := ⟨⟨by decide +kernel, by decide +kernel⟩, List.mem_of_getElem? (i := 210) (by decide +kernel), List.mem_of_getElem? (i := 893) (by decide +kernel), List.mem_of_getElem? (i := 894) (by decide +kernel)⟩
theorem lw_p53 : lw_okq (⟨"GooseIce$Crew", "ahead", "(II)I"⟩, 10) := ⟨⟨by decide +kernel, by decide +kernel⟩, List.mem_of_getElem? (i := 210) (by decide +kernel), List.mem_of_getElem? (i := 901) (by decide +kernel), List.mem_of_getElem? (i := 902) (by decide +kernel)⟩
theorem lw_p54 : lw_okq (⟨"GooseIce", "takePath", "(II)I"⟩, 20) := ⟨⟨by decide +kernel, by decide +kernel⟩, List.mem_of_getElem? (i := 23) (by decide +kernel), List.mem_of_getElem? (i := 923) (by decide +kernel), List.mem_of_getElem? (i := 924) (by decide +kernel)⟩
theorem lw_p55 : lw_okq (⟨"GooseIce$Crew", "isBusy", "(I)Z"⟩, 10) := ⟨⟨by decide +kernel, by decide +kernel⟩, List.mem_of_getElem? (i := 210) (by decide +kernel), List.mem_of_getElem? (i := 927) (by decide +kernel), List.mem_of_getElem? (i := 928) (by decide +kernel)⟩
theorem lw_p56 : lw_okq (⟨"GooseIce$Lake", "leads", "(I[II)Z"⟩, 14) := ⟨⟨by decide +kernel, by decide +kernel⟩, List.mem_of_getElem? (i := 168) (by decide +kernel), List.mem_of_getElem? (i := 931) (by decide +kernel), List.mem_of_getElem? (i := 932) (by decide +kernel)⟩
theorem lw_p57 : lw_okq (⟨"GooseIce$Crew", "aim", "(I[II)V"⟩, 10) := ⟨⟨by decide +kernel, by decide +kernel⟩, List.mem_of_getElem? (i := 210) (by decide +kernel), List.mem_of_getElem? (i := 935) (by decide +kernel), List.mem_of_getElem? (i := 936) (by decide +kernel)⟩
theorem lw_p58 : lw_okq (⟨"GooseIce", "findWay", "(II)Z"⟩, 20) := ⟨⟨by decide +kernel, by decide +kernel⟩, List.mem_of_getElem? (i := 23) (by decide +kernel), List.mem_of_getElem? (i := 946) (by decide +kernel), List.mem_of_getElem? (i := 947) (by decide +kernel)⟩
theorem lw_p59 : lw_okq (⟨"GooseIce$Lake", "carrying", "(I)I"⟩, 14) := ⟨⟨by decide +kernel, by decide +kernel⟩, List.mem_of_getElem? (i := 168) (by decide +kernel), List.mem_of_getElem? (i := 950) (by decide +kernel), List.mem_of_getElem? (i := 951) (by decide +kernel)⟩
theorem lw_p60 : lw_okq (⟨"GooseIce$Lake", "whole", "()I"⟩, 14) := ⟨⟨by decide +kernel, by decide +kernel⟩, List.mem_of_getElem? (i := 168) (by decide +kernel), List.mem_of_getElem? (i := 954) (by decide +kernel), List.mem_of_getElem? (i := 955) (by decide +kernel)⟩
theorem lw_p61 : lw_okq (⟨"GooseIce$Lake", "spare", "(II)I"⟩, 14) := ⟨⟨by decide +kernel, by decide +kernel⟩, List.mem_of_getElem? (i := 168) (by decide +kernel), List.mem_of_getElem? (i := 958) (by decide +kernel), List.mem_of_getElem? (i := 959) (by decide +kernel)⟩
theorem lw_p62 : lw_okq (⟨"GooseIce$Paths", "find", "(LGooseIce$Lake;III)Z"⟩, 6) := ⟨⟨by decide +kernel, by decide +kernel⟩, List.mem_of_getElem? (i := 388) (by decide +kernel), List.mem_of_getElem? (i := 963) (by decide +kernel), List.mem_of_getElem? (i := 964) (by decide +kernel)⟩
theorem lw_p63 : lw_okq (⟨"GooseIce$Paths", "layersFrom", "(LGooseIce$Lake;III)I"⟩, 6) := ⟨⟨by decide +kernel, by decide +kernel⟩, List.mem_of_getElem? (i := 388) (by decide +kernel), List.mem_of_getElem? (i := 967) (by decide +kernel), List.mem_of_getElem? (i := 968) (by decide +kernel)⟩
def lw_privs_4 : List (MethodName × Nat) := [(⟨"GooseIce$Lake", "isIce", "(I)Z"⟩, 14), (⟨"GooseIce$Lake", "strength", "(I)I"⟩, 14), (⟨"GooseIce$Lake", "load", "(II)I"⟩, 14), (⟨"GooseIce$Crew", "has", "(I)Z"⟩, 10), (⟨"GooseIce$Crew", "remaining", "(I)I"⟩, 10), (⟨"GooseIce$Crew", "ahead", "(II)I"⟩, 10), (⟨"GooseIce", "takePath", "(II)I"⟩, 20), (⟨"GooseIce$Crew", "isBusy", "(I)Z"⟩, 10), (⟨"GooseIce$Lake", "leads", "(I[II)Z"⟩, 14), (⟨"GooseIce$Crew", "aim", "(I[II)V"⟩, 10), (⟨"GooseIce", "findWay", "(II)Z"⟩, 20), (⟨"GooseIce$Lake", "carrying", "(I)I"⟩, 14), (⟨"GooseIce$Lake", "whole", "()I"⟩, 14), (⟨"GooseIce$Lake", "spare", "(II)I"⟩, 14), (⟨"GooseIce$Paths", "find", "(LGooseIce$Lake;III)Z"⟩, 6), (⟨"GooseIce$Paths", "layersFrom", "(LGooseIce$Lake;III)I"⟩, 6)]
theorem lw_r4 : ∀ q ∈ lw_privs_4, lw_okq q := List.forall_mem_cons.mpr ⟨lw_p48, List.forall_mem_cons.mpr ⟨lw_p49, List.forall_mem_cons.mpr ⟨lw_p50, List.forall_mem_cons.mpr ⟨lw_p51, List.forall_mem_cons.mpr ⟨lw_p52, List.forall_mem_cons.mpr ⟨lw_p53, List.forall_mem_cons.mpr ⟨lw_p54, List.forall_mem_cons.mpr ⟨lw_p55, List.forall_mem_cons.mpr ⟨lw_p56, List.forall_mem_cons.mpr ⟨lw_p57, List.forall_mem_cons.mpr ⟨lw_p58, List.forall_mem_cons.mpr ⟨lw_p59, List.forall_mem_cons.mpr ⟨lw_p60, List.forall_mem_cons.mpr ⟨lw_p61, List.forall_mem_cons.mpr ⟨lw_p62, List.forall_mem_cons.mpr ⟨lw_p63, fun _ h => absurd h List.not_mem_nil⟩⟩⟩⟩⟩⟩⟩⟩⟩⟩⟩⟩⟩⟩⟩⟩
theorem lw_p64 : lw_okq (⟨"GooseIce$Lake", "around", "(I)I"⟩, 14) := ⟨⟨by decide +kernel, by decide +kernel⟩, List.mem_of_getElem? (i := 168) (by decide +kernel), List.mem_of_getElem? (i := 971) (by decide +kernel), List.mem_of_getElem? (i := 972) (by decide +kernel)⟩
theorem lw_p65 : lw_okq (⟨"GooseIce$Lake", "walkOn", "(I)I"⟩, 14) := ⟨⟨by decide +kernel, by decide +kernel⟩, List.mem_of_getElem? (i := 168) (by decide +kernel), List.mem_of_getElem? (i := 993) (by decide +kernel), List.mem_of_getElem? (i := 994) (by decide +kernel)⟩
theorem lw_p66 : lw_okq (⟨"GooseIce$Lake", "walkOnce", "()I"⟩, 14) := ⟨⟨by decide +kernel, by decide +kernel⟩, List.mem_of_getElem? (i := 168) (by decide +kernel), List.mem_of_getElem? (i := 997) (by decide +kernel), List.mem_of_getElem? (i := 998) (by decide +kernel)⟩
theorem lw_p67 : lw_okq (⟨"GooseIce$Ice", "heal", "(II)V"⟩, 6) := ⟨⟨by decide +kernel, by decide +kernel⟩, List.mem_of_getElem? (i := 174) (by decide +kernel), List.mem_of_getElem? (i := 1001) (by decide +kernel), List.mem_of_getElem? (i := 1002) (by decide +kernel)⟩
theorem lw_p68 : lw_okq (⟨"GooseIce$Lake", "moveOne", "(II)V"⟩, 14) := ⟨⟨by decide +kernel, by decide +kernel⟩, List.mem_of_getElem? (i := 168) (by decide +kernel), List.mem_of_getElem? (i := 1006) (by decide +kernel), List.mem_of_getElem? (i := 1007) (by decide +kernel)⟩
theorem lw_p69 : lw_okq (⟨"GooseIce$Crew", "advance", "(II)V"⟩, 10) := ⟨⟨by decide +kernel, by decide +kernel⟩, List.mem_of_getElem? (i := 210) (by decide +kernel), List.mem_of_getElem? (i := 1011) (by decide +kernel), List.mem_of_getElem? (i := 1012) (by decide +kernel)⟩
theorem lw_p70 : lw_okq (⟨"GooseIce$Crew", "soak", "(I)V"⟩, 10) := ⟨⟨by decide +kernel, by decide +kernel⟩, List.mem_of_getElem? (i := 210) (by decide +kernel), List.mem_of_getElem? (i := 1015) (by decide +kernel), List.mem_of_getElem? (i := 1016) (by decide +kernel)⟩
theorem lw_p71 : lw_okq (⟨"GooseIce$Ice", "enter", "(II)V"⟩, 6) := ⟨⟨by decide +kernel, by decide +kernel⟩, List.mem_of_getElem? (i := 174) (by decide +kernel), List.mem_of_getElem? (i := 1019) (by decide +kernel), List.mem_of_getElem? (i := 1020) (by decide +kernel)⟩
theorem lw_p72 : lw_okq (⟨"GooseIce$Lake", "weighAll", "()V"⟩, 14) := ⟨⟨by decide +kernel, by decide +kernel⟩, List.mem_of_getElem? (i := 168) (by decide +kernel), List.mem_of_getElem? (i := 1023) (by decide +kernel), List.mem_of_getElem? (i := 1024) (by decide +kernel)⟩
theorem lw_p73 : lw_okq (⟨"GooseIce$Lake", "overloaded", "()I"⟩, 14) := ⟨⟨by decide +kernel, by decide +kernel⟩, List.mem_of_getElem? (i := 168) (by decide +kernel), List.mem_of_getElem? (i := 1027) (by decide +kernel), List.mem_of_getElem? (i := 1028) (by decide +kernel)⟩
theorem lw_p74 : lw_okq (⟨"GooseIce$Lake", "crack", "(I)V"⟩, 14) := ⟨⟨by decide +kernel, by decide +kernel⟩, List.mem_of_getElem? (i := 168) (by decide +kernel), List.mem_of_getElem? (i := 1032) (by decide +kernel), List.mem_of_getElem? (i := 1033) (by decide +kernel)⟩
theorem lw_p75 : lw_okq (⟨"GooseIce$Ice", "shatter", "(I)V"⟩, 6) := ⟨⟨by decide +kernel, by decide +kernel⟩, List.mem_of_getElem? (i := 174) (by decide +kernel), List.mem_of_getElem? (i := 1036) (by decide +kernel), List.mem_of_getElem? (i := 1037) (by decide +kernel)⟩
theorem lw_p76 : lw_okq (⟨"GooseIce$Lake", "noteLoads", "()V"⟩, 14) := ⟨⟨by decide +kernel, by decide +kernel⟩, List.mem_of_getElem? (i := 168) (by decide +kernel), List.mem_of_getElem? (i := 1040) (by decide +kernel), List.mem_of_getElem? (i := 1041) (by decide +kernel)⟩
theorem lw_p77 : lw_okq (⟨"GooseIce$Lake", "freeze", "(I)I"⟩, 14) := ⟨⟨by decide +kernel, by decide +kernel⟩, List.mem_of_getElem? (i := 168) (by decide +kernel), List.mem_of_getElem? (i := 1048) (by decide +kernel), List.mem_of_getElem? (i := 1049) (by decide +kernel)⟩
theorem lw_p78 : lw_okq (⟨"GooseIce$Lake", "soften", "(I)V"⟩, 14) := ⟨⟨by decide +kernel, by decide +kernel⟩, List.mem_of_getElem? (i := 168) (by decide +kernel), List.mem_of_getElem? (i := 1059) (by decide +kernel), List.mem_of_getElem? (i := 1060) (by decide +kernel)⟩
theorem lw_p79 : lw_okq (⟨"GooseIce$Lake", "countSpent", "()I"⟩, 14) := ⟨⟨by decide +kernel, by decide +kernel⟩, List.mem_of_getElem? (i := 168) (by decide +kernel), List.mem_of_getElem? (i := 1063) (by decide +kernel), List.mem_of_getElem? (i := 1064) (by decide +kernel)⟩
def lw_privs_5 : List (MethodName × Nat) := [(⟨"GooseIce$Lake", "around", "(I)I"⟩, 14), (⟨"GooseIce$Lake", "walkOn", "(I)I"⟩, 14), (⟨"GooseIce$Lake", "walkOnce", "()I"⟩, 14), (⟨"GooseIce$Ice", "heal", "(II)V"⟩, 6), (⟨"GooseIce$Lake", "moveOne", "(II)V"⟩, 14), (⟨"GooseIce$Crew", "advance", "(II)V"⟩, 10), (⟨"GooseIce$Crew", "soak", "(I)V"⟩, 10), (⟨"GooseIce$Ice", "enter", "(II)V"⟩, 6), (⟨"GooseIce$Lake", "weighAll", "()V"⟩, 14), (⟨"GooseIce$Lake", "overloaded", "()I"⟩, 14), (⟨"GooseIce$Lake", "crack", "(I)V"⟩, 14), (⟨"GooseIce$Ice", "shatter", "(I)V"⟩, 6), (⟨"GooseIce$Lake", "noteLoads", "()V"⟩, 14), (⟨"GooseIce$Lake", "freeze", "(I)I"⟩, 14), (⟨"GooseIce$Lake", "soften", "(I)V"⟩, 14), (⟨"GooseIce$Lake", "countSpent", "()I"⟩, 14)]
theorem lw_r5 : ∀ q ∈ lw_privs_5, lw_okq q := List.forall_mem_cons.mpr ⟨lw_p64, List.forall_mem_cons.mpr ⟨lw_p65, List.forall_mem_cons.mpr ⟨lw_p66, List.forall_mem_cons.mpr ⟨lw_p67, List.forall_mem_cons.mpr ⟨lw_p68, List.forall_mem_cons.mpr ⟨lw_p69, List.forall_mem_cons.mpr ⟨lw_p70, List.forall_mem_cons.mpr ⟨lw_p71, List.forall_mem_cons.mpr ⟨lw_p72, List.forall_mem_cons.mpr ⟨lw_p73, List.forall_mem_cons.mpr ⟨lw_p74, List.forall_mem_cons.mpr ⟨lw_p75, List.forall_mem_cons.mpr ⟨lw_p76, List.forall_mem_cons.mpr ⟨lw_p77, List.forall_mem_cons.mpr ⟨lw_p78, List.forall_mem_cons.mpr ⟨lw_p79, fun _ h => absurd h List.not_mem_nil⟩⟩⟩⟩⟩⟩⟩⟩⟩⟩⟩⟩⟩⟩⟩⟩
theorem lw_p80 : lw_okq (⟨"GooseIce$Lake", "bringAshore", "(I)V"⟩, 14) := ⟨⟨by decide +kernel, by decide +kernel⟩, List.mem_of_getElem? (i := 168) (by decide +kernel), List.mem_of_getElem? (i := 1071) (by decide +kernel), List.mem_of_getElem? (i := 1072) (by decide +kernel)⟩
theorem lw_p81 : lw_okq (⟨"GooseIce$Paths", "has", "(I)Z"⟩, 6) := ⟨⟨by decide +kernel, by decide +kernel⟩, List.mem_of_getElem? (i := 388) (by decide +kernel), List.mem_of_getElem? (i := 1106) (by decide +kernel), List.mem_of_getElem? (i := 1107) (by decide +kernel)⟩
theorem lw_p82 : lw_okq (⟨"GooseIce", "isElsewhere", "(II)Z"⟩, 20) := ⟨⟨by decide +kernel, by decide +kernel⟩, List.mem_of_getElem? (i := 23) (by decide +kernel), List.mem_of_getElem? (i := 1114) (by decide +kernel), List.mem_of_getElem? (i := 1115) (by decide +kernel)⟩
theorem lw_p83 : lw_okq (⟨"GooseIce$Paths", "findSurest", "(LGooseIce$Lake;II)Z"⟩, 6) := ⟨⟨by decide +kernel, by decide +kernel⟩, List.mem_of_getElem? (i := 388) (by decide +kernel), List.mem_of_getElem? (i := 1118) (by decide +kernel), List.mem_of_getElem? (i := 1119) (by decide +kernel)⟩
theorem lw_p84 : lw_okq (⟨"GooseIce$Paths", "sparing", "(LGooseIce$Lake;I)I"⟩, 6) := ⟨⟨by decide +kernel, by decide +kernel⟩, List.mem_of_getElem? (i := 388) (by decide +kernel), List.mem_of_getElem? (i := 1123) (by decide +kernel), List.mem_of_getElem? (i := 1124) (by decide +kernel)⟩
theorem lw_p85 : lw_okq (⟨"GooseIce$Lake", "flood", "(II)I"⟩, 14) := ⟨⟨by decide +kernel, by decide +kernel⟩, List.mem_of_getElem? (i := 168) (by decide +kernel), List.mem_of_getElem? (i := 1127) (by decide +kernel), List.mem_of_getElem? (i := 1128) (by decide +kernel)⟩
theorem lw_p86 : lw_okq (⟨"GooseIce$Paths", "fewestWithout", "(LGooseIce$Lake;II)I"⟩, 6) := ⟨⟨by decide +kernel, by decide +kernel⟩, List.mem_of_getElem? (i := 388) (by decide +kernel), List.mem_of_getElem? (i := 1150) (by decide +kernel), List.mem_of_getElem? (i := 1151) (by decide +kernel)⟩
theorem lw_p87 : lw_okq (⟨"GooseIce$Lake", "leastOnRoute", "(I)I"⟩, 14) := ⟨⟨by decide +kernel, by decide +kernel⟩, List.mem_of_getElem? (i := 168) (by decide +kernel), List.mem_of_getElem? (i := 1164) (by decide +kernel), List.mem_of_getElem? (i := 1165) (by decide +kernel)⟩
theorem lw_p88 : lw_okq (⟨"GooseIce$Lake", "frailest", "()I"⟩, 14) := ⟨⟨by decide +kernel, by decide +kernel⟩, List.mem_of_getElem? (i := 168) (by decide +kernel), List.mem_of_getElem? (i := 1174) (by decide +kernel), List.mem_of_getElem? (i := 1175) (by decide +kernel)⟩
theorem lw_p89 : lw_okq (⟨"GooseIce$Lake", "notCarried", "(I)I"⟩, 14) := ⟨⟨by decide +kernel, by decide +kernel⟩, List.mem_of_getElem? (i := 168) (by decide +kernel), List.mem_of_getElem? (i := 1182) (by decide +kernel), List.mem_of_getElem? (i := 1183) (by decide +kernel)⟩
theorem lw_p90 : lw_okq (⟨"GooseIce$Lake", "stepsTillStrong", "(II)I"⟩, 14) := ⟨⟨by decide +kernel, by decide +kernel⟩, List.mem_of_getElem? (i := 168) (by decide +kernel), List.mem_of_getElem? (i := 1191) (by decide +kernel), List.mem_of_getElem? (i := 1192) (by decide +kernel)⟩
theorem lw_p91 : lw_okq (⟨"GooseIce$Crew", "hasSet", "(I)Z"⟩, 10) := ⟨⟨by decide +kernel, by decide +kernel⟩, List.mem_of_getElem? (i := 210) (by decide +kernel), List.mem_of_getElem? (i := 1199) (by decide +kernel), List.mem_of_getElem? (i := 1200) (by decide +kernel)⟩
theorem lw_p92 : lw_okq (⟨"GooseIce$Lake", "sharedShore", "(I)I"⟩, 14) := ⟨⟨by decide +kernel, by decide +kernel⟩, List.mem_of_getElem? (i := 168) (by decide +kernel), List.mem_of_getElem? (i := 1203) (by decide +kernel), List.mem_of_getElem? (i := 1204) (by decide +kernel)⟩
theorem lw_p93 : lw_okq (⟨"GooseIce$Queue", "soonest", "(LGooseIce$Lake;I[II)I"⟩, 11) := ⟨⟨by decide +kernel, by decide +kernel⟩, List.mem_of_getElem? (i := 419) (by decide +kernel), List.mem_of_getElem? (i := 1207) (by decide +kernel), List.mem_of_getElem? (i := 1208) (by decide +kernel)⟩
theorem lw_p94 : lw_okq (⟨"GooseIce$Queue", "gather", "(I)V"⟩, 11) := ⟨⟨by decide +kernel, by decide +kernel⟩, List.mem_of_getElem? (i := 419) (by decide +kernel), List.mem_of_getElem? (i := 1216) (by decide +kernel), List.mem_of_getElem? (i := 1217) (by decide +kernel)⟩
theorem lw_p95 : lw_okq (⟨"GooseIce$Queue", "arrange", "(I)Z"⟩, 11) := ⟨⟨by decide +kernel, by decide +kernel⟩, List.mem_of_getElem? (i := 419) (by decide +kernel), List.mem_of_getElem? (i := 1220) (by decide +kernel), List.mem_of_getElem? (i := 1221) (by decide +kernel)⟩
def lw_privs_6 : List (MethodName × Nat) := [(⟨"GooseIce$Lake", "bringAshore", "(I)V"⟩, 14), (⟨"GooseIce$Paths", "has", "(I)Z"⟩, 6), (⟨"GooseIce", "isElsewhere", "(II)Z"⟩, 20), (⟨"GooseIce$Paths", "findSurest", "(LGooseIce$Lake;II)Z"⟩, 6), (⟨"GooseIce$Paths", "sparing", "(LGooseIce$Lake;I)I"⟩, 6), (⟨"GooseIce$Lake", "flood", "(II)I"⟩, 14), (⟨"GooseIce$Paths", "fewestWithout", "(LGooseIce$Lake;II)I"⟩, 6), (⟨"GooseIce$Lake", "leastOnRoute", "(I)I"⟩, 14), (⟨"GooseIce$Lake", "frailest", "()I"⟩, 14), (⟨"GooseIce$Lake", "notCarried", "(I)I"⟩, 14), (⟨"GooseIce$Lake", "stepsTillStrong", "(II)I"⟩, 14), (⟨"GooseIce$Crew", "hasSet", "(I)Z"⟩, 10), (⟨"GooseIce$Lake", "sharedShore", "(I)I"⟩, 14), (⟨"GooseIce$Queue", "soonest", "(LGooseIce$Lake;I[II)I"⟩, 11), (⟨"GooseIce$Queue", "gather", "(I)V"⟩, 11), (⟨"GooseIce$Queue", "arrange", "(I)Z"⟩, 11)]
theorem lw_r6 : ∀ q ∈ lw_privs_6, lw_okq q := List.forall_mem_cons.mpr ⟨lw_p80, List.forall_mem_cons.mpr ⟨lw_p81, List.forall_mem_cons.mpr ⟨lw_p82, List.forall_mem_cons.mpr ⟨lw_p83, List.forall_mem_cons.mpr ⟨lw_p84, List.forall_mem_cons.mpr ⟨lw_p85, List.forall_mem_cons.mpr ⟨lw_p86, List.forall_mem_cons.mpr ⟨lw_p87, List.forall_mem_cons.mpr ⟨lw_p88, List.forall_mem_cons.mpr ⟨lw_p89, List.forall_mem_cons.mpr ⟨lw_p90, List.forall_mem_cons.mpr ⟨lw_p91, List.forall_mem_cons.mpr ⟨lw_p92, List.forall_mem_cons.mpr ⟨lw_p93, List.forall_mem_cons.mpr ⟨lw_p94, List.forall_mem_cons.mpr ⟨lw_p95, fun _ h => absurd h List.not_mem_nil⟩⟩⟩⟩⟩⟩⟩⟩⟩⟩⟩⟩⟩⟩⟩⟩
theorem lw_p96 : lw_okq (⟨"GooseIce$Queue", "startFirst", "(LGooseIce$Lake;)V"⟩, 11) := ⟨⟨by decide +kernel, by decide +kernel⟩, List.mem_of_getElem? (i := 419) (by decide +kernel), List.mem_of_getElem? (i := 1224) (by decide +kernel), List.mem_of_getElem? (i := 1225) (by decide +kernel)⟩
theorem lw_p97 : lw_okq (⟨"GooseIce$Queue", "tryGaps", "(II)V"⟩, 11) := ⟨⟨by decide +kernel, by decide +kernel⟩, List.mem_of_getElem? (i := 419) (by decide +kernel), List.mem_of_getElem? (i := 1231) (by decide +kernel), List.mem_of_getElem? (i := 1232) (by decide +kernel)⟩
theorem lw_p98 : lw_okq (⟨"GooseIce$Queue", "finish", "(LGooseIce$Lake;I)V"⟩, 11) := ⟨⟨by decide +kernel, by decide +kernel⟩, List.mem_of_getElem? (i := 419) (by decide +kernel), List.mem_of_getElem? (i := 1235) (by decide +kernel), List.mem_of_getElem? (i := 1236) (by decide +kernel)⟩
theorem lw_p99 : lw_okq (⟨"GooseIce$Crew", "evenPart", "(I)I"⟩, 10) := ⟨⟨by decide +kernel, by decide +kernel⟩, List.mem_of_getElem? (i := 210) (by decide +kernel), List.mem_of_getElem? (i := 1252) (by decide +kernel), List.mem_of_getElem? (i := 1253) (by decide +kernel)⟩
theorem lw_p100 : lw_okq (⟨"GooseIce$Crew", "weightOf", "(I)I"⟩, 10) := ⟨⟨by decide +kernel, by decide +kernel⟩, List.mem_of_getElem? (i := 210) (by decide +kernel), List.mem_of_getElem? (i := 1256) (by decide +kernel), List.mem_of_getElem? (i := 1257) (by decide +kernel)⟩
theorem lw_p101 : lw_okq (⟨"GooseIce$Crew", "fewestGroups", "(II[I)I"⟩, 10) := ⟨⟨by decide +kernel, by decide +kernel⟩, List.mem_of_getElem? (i := 210) (by decide +kernel), List.mem_of_getElem? (i := 1273) (by decide +kernel), List.mem_of_getElem? (i := 1274) (by decide +kernel)⟩
theorem lw_p102 : lw_okq (⟨"GooseIce$Crew", "bestLast", "(II[I)I"⟩, 10) := ⟨⟨by decide +kernel, by decide +kernel⟩, List.mem_of_getElem? (i := 210) (by decide +kernel), List.mem_of_getElem? (i := 1277) (by decide +kernel), List.mem_of_getElem? (i := 1278) (by decide +kernel)⟩
theorem lw_p103 : lw_okq (⟨"GooseIce$Paths", "whoMayHaveCracked", "(LGooseIce$Lake;I)I"⟩, 6) := ⟨⟨by decide +kernel, by decide +kernel⟩, List.mem_of_getElem? (i := 388) (by decide +kernel), List.mem_of_getElem? (i := 1307) (by decide +kernel), List.mem_of_getElem? (i := 1308) (by decide +kernel)⟩
theorem lw_p104 : lw_okq (⟨"GooseIce$Paths", "crosses", "(LGooseIce$Lake;II)Z"⟩, 6) := ⟨⟨by decide +kernel, by decide +kernel⟩, List.mem_of_getElem? (i := 388) (by decide +kernel), List.mem_of_getElem? (i := 1316) (by decide +kernel), List.mem_of_getElem? (i := 1317) (by decide +kernel)⟩
theorem lw_p105 : lw_okq (⟨"GooseIce$Paths", "crossesFrom", "(LGooseIce$Lake;III)Z"⟩, 6) := ⟨⟨by decide +kernel, by decide +kernel⟩, List.mem_of_getElem? (i := 388) (by decide +kernel), List.mem_of_getElem? (i := 1321) (by decide +kernel), List.mem_of_getElem? (i := 1322) (by decide +kernel)⟩
theorem lw_p106 : lw_okq (⟨"GooseIce$Paths", "lastOf", "(LGooseIce$Lake;II)I"⟩, 6) := ⟨⟨by decide +kernel, by decide +kernel⟩, List.mem_of_getElem? (i := 388) (by decide +kernel), List.mem_of_getElem? (i := 1325) (by decide +kernel), List.mem_of_getElem? (i := 1326) (by decide +kernel)⟩
theorem lw_p107 : lw_okq (⟨"GooseIce$Days", "spread", "(IIII)V"⟩, 3) := ⟨⟨by decide +kernel, by decide +kernel⟩, List.mem_of_getElem? (i := 464) (by decide +kernel), List.mem_of_getElem? (i := 1336) (by decide +kernel), List.mem_of_getElem? (i := 1337) (by decide +kernel)⟩
theorem lw_p108 : lw_okq (⟨"GooseIce$Days", "valueAt", "(I)I"⟩, 3) := ⟨⟨by decide +kernel, by decide +kernel⟩, List.mem_of_getElem? (i := 464) (by decide +kernel), List.mem_of_getElem? (i := 1341) (by decide +kernel), List.mem_of_getElem? (i := 1342) (by decide +kernel)⟩
theorem lw_p109 : lw_okq (⟨"GooseIce$Days", "atLeast", "(I)J"⟩, 3) := ⟨⟨by decide +kernel, by decide +kernel⟩, List.mem_of_getElem? (i := 464) (by decide +kernel), List.mem_of_getElem? (i := 1346) (by decide +kernel), List.mem_of_getElem? (i := 1347) (by decide +kernel)⟩
theorem lw_p110 : lw_okq (⟨"GooseIce", "tell", "(JJ)V"⟩, 20) := ⟨⟨by decide +kernel, by decide +kernel⟩, List.mem_of_getElem? (i := 23) (by decide +kernel), List.mem_of_getElem? (i := 1353) (by decide +kernel), List.mem_of_getElem? (i := 1354) (by decide +kernel)⟩
theorem lw_p111 : lw_okq (⟨"GooseIce$Days", "sum", "()J"⟩, 3) := ⟨⟨by decide +kernel, by decide +kernel⟩, List.mem_of_getElem? (i := 464) (by decide +kernel), List.mem_of_getElem? (i := 1366) (by decide +kernel), List.mem_of_getElem? (i := 1367) (by decide +kernel)⟩
def lw_privs_7 : List (MethodName × Nat) := [(⟨"GooseIce$Queue", "startFirst", "(LGooseIce$Lake;)V"⟩, 11), (⟨"GooseIce$Queue", "tryGaps", "(II)V"⟩, 11), (⟨"GooseIce$Queue", "finish", "(LGooseIce$Lake;I)V"⟩, 11), (⟨"GooseIce$Crew", "evenPart", "(I)I"⟩, 10), (⟨"GooseIce$Crew", "weightOf", "(I)I"⟩, 10), (⟨"GooseIce$Crew", "fewestGroups", "(II[I)I"⟩, 10), (⟨"GooseIce$Crew", "bestLast", "(II[I)I"⟩, 10), (⟨"GooseIce$Paths", "whoMayHaveCracked", "(LGooseIce$Lake;I)I"⟩, 6), (⟨"GooseIce$Paths", "crosses", "(LGooseIce$Lake;II)Z"⟩, 6), (⟨"GooseIce$Paths", "crossesFrom", "(LGooseIce$Lake;III)Z"⟩, 6), (⟨"GooseIce$Paths", "lastOf", "(LGooseIce$Lake;II)I"⟩, 6), (⟨"GooseIce$Days", "spread", "(IIII)V"⟩, 3), (⟨"GooseIce$Days", "valueAt", "(I)I"⟩, 3), (⟨"GooseIce$Days", "atLeast", "(I)J"⟩, 3), (⟨"GooseIce", "tell", "(JJ)V"⟩, 20), (⟨"GooseIce$Days", "sum", "()J"⟩, 3)]
theorem lw_r7 : ∀ q ∈ lw_privs_7, lw_okq q := List.forall_mem_cons.mpr ⟨lw_p96, List.forall_mem_cons.mpr ⟨lw_p97, List.forall_mem_cons.mpr ⟨lw_p98, List.forall_mem_cons.mpr ⟨lw_p99, List.forall_mem_cons.mpr ⟨lw_p100, List.forall_mem_cons.mpr ⟨lw_p101, List.forall_mem_cons.mpr ⟨lw_p102, List.forall_mem_cons.mpr ⟨lw_p103, List.forall_mem_cons.mpr ⟨lw_p104, List.forall_mem_cons.mpr ⟨lw_p105, List.forall_mem_cons.mpr ⟨lw_p106, List.forall_mem_cons.mpr ⟨lw_p107, List.forall_mem_cons.mpr ⟨lw_p108, List.forall_mem_cons.mpr ⟨lw_p109, List.forall_mem_cons.mpr ⟨lw_p110, List.forall_mem_cons.mpr ⟨lw_p111, fun _ h => absurd h List.not_mem_nil⟩⟩⟩⟩⟩⟩⟩⟩⟩⟩⟩⟩⟩⟩⟩⟩
theorem lw_p112 : lw_okq (⟨"GooseIce$Life", "run", "(LGooseIce$Lake;LGooseIce$Tales;I)I"⟩, 11) := ⟨⟨by decide +kernel, by decide +kernel⟩, List.mem_of_getElem? (i := 480) (by decide +kernel), List.mem_of_getElem? (i := 1374) (by decide +kernel), List.mem_of_getElem? (i := 1375) (by decide +kernel)⟩
theorem lw_p113 : lw_okq (⟨"GooseIce$Life", "act", "(LGooseIce$Lake;LGooseIce$Tales;I)I"⟩, 11) := ⟨⟨by decide +kernel, by decide +kernel⟩, List.mem_of_getElem? (i := 480) (by decide +kernel), List.mem_of_getElem? (i := 1378) (by decide +kernel), List.mem_of_getElem? (i := 1379) (by decide +kernel)⟩
theorem lw_p114 : lw_okq (⟨"GooseIce$Life", "trySend", "(LGooseIce$Lake;II)V"⟩, 11) := ⟨⟨by decide +kernel, by decide +kernel⟩, List.mem_of_getElem? (i := 480) (by decide +kernel), List.mem_of_getElem? (i := 1382) (by decide +kernel), List.mem_of_getElem? (i := 1383) (by decide +kernel)⟩
theorem lw_p115 : lw_okq (⟨"GooseIce$Life", "draw", "(I)I"⟩, 11) := ⟨⟨by decide +kernel, by decide +kernel⟩, List.mem_of_getElem? (i := 480) (by decide +kernel), List.mem_of_getElem? (i := 1396) (by decide +kernel), List.mem_of_getElem? (i := 1397) (by decide +kernel)⟩
theorem lw_p116 : lw_okq (⟨"GooseIce$Life", "beginLoop", "(LGooseIce$Tales;I)V"⟩, 11) := ⟨⟨by decide +kernel, by decide +kernel⟩, List.mem_of_getElem? (i := 480) (by decide +kernel), List.mem_of_getElem? (i := 1406) (by decide +kernel), List.mem_of_getElem? (i := 1407) (by decide +kernel)⟩
theorem lw_p117 : lw_okq (⟨"GooseIce$Life", "backToLoop", "(LGooseIce$Tales;I)I"⟩, 11) := ⟨⟨by decide +kernel, by decide +kernel⟩, List.mem_of_getElem? (i := 480) (by decide +kernel), List.mem_of_getElem? (i := 1410) (by decide +kernel), List.mem_of_getElem? (i := 1411) (by decide +kernel)⟩
theorem lw_p118 : lw_okq (⟨"GooseIceModel", "plain", "(I)V"⟩, 43) := ⟨⟨by decide +kernel, by decide +kernel⟩, List.mem_of_getElem? (i := 1430) (by decide +kernel), List.mem_of_getElem? (i := 1436) (by decide +kernel), List.mem_of_getElem? (i := 1437) (by decide +kernel)⟩
theorem lw_p119 : lw_okq (⟨"GooseIceModel", "is", "(I)Z"⟩, 43) := ⟨⟨by decide +kernel, by decide +kernel⟩, List.mem_of_getElem? (i := 1430) (by decide +kernel), List.mem_of_getElem? (i := 1589) (by decide +kernel), List.mem_of_getElem? (i := 1590) (by decide +kernel)⟩
theorem lw_p120 : lw_okq (⟨"GooseIceModel", "wrongPlace", "(II)I"⟩, 43) := ⟨⟨by decide +kernel, by decide +kernel⟩, List.mem_of_getElem? (i := 1430) (by decide +kernel), List.mem_of_getElem? (i := 1597) (by decide +kernel), List.mem_of_getElem? (i := 1598) (by decide +kernel)⟩
theorem lw_p121 : lw_okq (⟨"GooseIceModel", "four", "(I)V"⟩, 43) := ⟨⟨by decide +kernel, by decide +kernel⟩, List.mem_of_getElem? (i := 1430) (by decide +kernel), List.mem_of_getElem? (i := 1617) (by decide +kernel), List.mem_of_getElem? (i := 1618) (by decide +kernel)⟩
theorem lw_p122 : lw_okq (⟨"GooseIceModel", "begins", "(II)Z"⟩, 43) := ⟨⟨by decide +kernel, by decide +kernel⟩, List.mem_of_getElem? (i := 1430) (by decide +kernel), List.mem_of_getElem? (i := 1629) (by decide +kernel), List.mem_of_getElem? (i := 1630) (by decide +kernel)⟩
theorem lw_p123 : lw_okq (⟨"GooseIceModel", "ahead", "()V"⟩, 43) := ⟨⟨by decide +kernel, by decide +kernel⟩, List.mem_of_getElem? (i := 1430) (by decide +kernel), List.mem_of_getElem? (i := 1633) (by decide +kernel), List.mem_of_getElem? (i := 1634) (by decide +kernel)⟩
theorem lw_p124 : lw_okq (⟨"GooseIceModel", "byteAt", "(I)I"⟩, 43) := ⟨⟨by decide +kernel, by decide +kernel⟩, List.mem_of_getElem? (i := 1430) (by decide +kernel), List.mem_of_getElem? (i := 1637) (by decide +kernel), List.mem_of_getElem? (i := 1638) (by decide +kernel)⟩
theorem lw_p125 : lw_okq (⟨"GooseIceModel", "refuse", "(I)I"⟩, 43) := ⟨⟨by decide +kernel, by decide +kernel⟩, List.mem_of_getElem? (i := 1430) (by decide +kernel), List.mem_of_getElem? (i := 1649) (by decide +kernel), List.mem_of_getElem? (i := 1650) (by decide +kernel)⟩
theorem lw_p126 : lw_okq (⟨"GooseIceModel", "lakePart", "()Z"⟩, 43) := ⟨⟨by decide +kernel, by decide +kernel⟩, List.mem_of_getElem? (i := 1430) (by decide +kernel), List.mem_of_getElem? (i := 1653) (by decide +kernel), List.mem_of_getElem? (i := 1654) (by decide +kernel)⟩
theorem lw_p127 : lw_okq (⟨"GooseIceModel", "inWords", "(Ljava/lang/String;)I"⟩, 43) := ⟨⟨by decide +kernel, by decide +kernel⟩, List.mem_of_getElem? (i := 1430) (by decide +kernel), List.mem_of_getElem? (i := 1658) (by decide +kernel), List.mem_of_getElem? (i := 1659) (by decide +kernel)⟩
def lw_privs_8 : List (MethodName × Nat) := [(⟨"GooseIce$Life", "run", "(LGooseIce$Lake;LGooseIce$Tales;I)I"⟩, 11), (⟨"GooseIce$Life", "act", "(LGooseIce$Lake;LGooseIce$Tales;I)I"⟩, 11), (⟨"GooseIce$Life", "trySend", "(LGooseIce$Lake;II)V"⟩, 11), (⟨"GooseIce$Life", "draw", "(I)I"⟩, 11), (⟨"GooseIce$Life", "beginLoop", "(LGooseIce$Tales;I)V"⟩, 11), (⟨"GooseIce$Life", "backToLoop", "(LGooseIce$Tales;I)I"⟩, 11), (⟨"GooseIceModel", "plain", "(I)V"⟩, 43), (⟨"GooseIceModel", "is", "(I)Z"⟩, 43), (⟨"GooseIceModel", "wrongPlace", "(II)I"⟩, 43), (⟨"GooseIceModel", "four", "(I)V"⟩, 43), (⟨"GooseIceModel", "begins", "(II)Z"⟩, 43), (⟨"GooseIceModel", "ahead", "()V"⟩, 43), (⟨"GooseIceModel", "byteAt", "(I)I"⟩, 43), (⟨"GooseIceModel", "refuse", "(I)I"⟩, 43), (⟨"GooseIceModel", "lakePart", "()Z"⟩, 43), (⟨"GooseIceModel", "inWords", "(Ljava/lang/String;)I"⟩, 43)]
theorem lw_r8 : ∀ q ∈ lw_privs_8, lw_okq q := List.forall_mem_cons.mpr ⟨lw_p112, List.forall_mem_cons.mpr ⟨lw_p113, List.forall_mem_cons.mpr ⟨lw_p114, List.forall_mem_cons.mpr ⟨lw_p115, List.forall_mem_cons.mpr ⟨lw_p116, List.forall_mem_cons.mpr ⟨lw_p117, List.forall_mem_cons.mpr ⟨lw_p118, List.forall_mem_cons.mpr ⟨lw_p119, List.forall_mem_cons.mpr ⟨lw_p120, List.forall_mem_cons.mpr ⟨lw_p121, List.forall_mem_cons.mpr ⟨lw_p122, List.forall_mem_cons.mpr ⟨lw_p123, List.forall_mem_cons.mpr ⟨lw_p124, List.forall_mem_cons.mpr ⟨lw_p125, List.forall_mem_cons.mpr ⟨lw_p126, List.forall_mem_cons.mpr ⟨lw_p127, fun _ h => absurd h List.not_mem_nil⟩⟩⟩⟩⟩⟩⟩⟩⟩⟩⟩⟩⟩⟩⟩⟩
theorem lw_p128 : lw_okq (⟨"GooseIceModel", "aCell", "(Z)Z"⟩, 43) := ⟨⟨by decide +kernel, by decide +kernel⟩, List.mem_of_getElem? (i := 1430) (by decide +kernel), List.mem_of_getElem? (i := 1664) (by decide +kernel), List.mem_of_getElem? (i := 1665) (by decide +kernel)⟩
theorem lw_p129 : lw_okq (⟨"GooseIceModel", "newOne", "(III)Z"⟩, 43) := ⟨⟨by decide +kernel, by decide +kernel⟩, List.mem_of_getElem? (i := 1430) (by decide +kernel), List.mem_of_getElem? (i := 1668) (by decide +kernel), List.mem_of_getElem? (i := 1669) (by decide +kernel)⟩
theorem lw_p130 : lw_okq (⟨"GooseIceModel", "fails", "(I)Z"⟩, 43) := ⟨⟨by decide +kernel, by decide +kernel⟩, List.mem_of_getElem? (i := 1430) (by decide +kernel), List.mem_of_getElem? (i := 1672) (by decide +kernel), List.mem_of_getElem? (i := 1673) (by decide +kernel)⟩
theorem lw_p131 : lw_okq (⟨"GooseIceModel", "isName", "(Ljava/lang/String;)Z"⟩, 43) := ⟨⟨by decide +kernel, by decide +kernel⟩, List.mem_of_getElem? (i := 1430) (by decide +kernel), List.mem_of_getElem? (i := 1676) (by decide +kernel), List.mem_of_getElem? (i := 1677) (by decide +kernel)⟩
theorem lw_p132 : lw_okq (⟨"GooseIceModel", "findHere", "(II)I"⟩, 43) := ⟨⟨by decide +kernel, by decide +kernel⟩, List.mem_of_getElem? (i := 1430) (by decide +kernel), List.mem_of_getElem? (i := 1680) (by decide +kernel), List.mem_of_getElem? (i := 1681) (by decide +kernel)⟩
theorem lw_p133 : lw_okq (⟨"GooseIceModel", "nameHere", "()J"⟩, 43) := ⟨⟨by decide +kernel, by decide +kernel⟩, List.mem_of_getElem? (i := 1430) (by decide +kernel), List.mem_of_getElem? (i := 1684) (by decide +kernel), List.mem_of_getElem? (i := 1685) (by decide +kernel)⟩
theorem lw_p134 : lw_okq (⟨"GooseIceModel", "wantWord", "(Ljava/lang/String;I)Z"⟩, 43) := ⟨⟨by decide +kernel, by decide +kernel⟩, List.mem_of_getElem? (i := 1430) (by decide +kernel), List.mem_of_getElem? (i := 1688) (by decide +kernel), List.mem_of_getElem? (i := 1689) (by decide +kernel)⟩
theorem lw_p135 : lw_okq (⟨"GooseIceModel", "number", "(III)Z"⟩, 43) := ⟨⟨by decide +kernel, by decide +kernel⟩, List.mem_of_getElem? (i := 1430) (by decide +kernel), List.mem_of_getElem? (i := 1692) (by decide +kernel), List.mem_of_getElem? (i := 1693) (by decide +kernel)⟩
theorem lw_p136 : lw_okq (⟨"GooseIceModel", "aCouple", "(I)Z"⟩, 43) := ⟨⟨by decide +kernel, by decide +kernel⟩, List.mem_of_getElem? (i := 1430) (by decide +kernel), List.mem_of_getElem? (i := 1696) (by decide +kernel), List.mem_of_getElem? (i := 1697) (by decide +kernel)⟩
theorem lw_p137 : lw_okq (⟨"GooseIceModel", "cellHere", "()I"⟩, 43) := ⟨⟨by decide +kernel, by decide +kernel⟩, List.mem_of_getElem? (i := 1430) (by decide +kernel), List.mem_of_getElem? (i := 1700) (by decide +kernel), List.mem_of_getElem? (i := 1701) (by decide +kernel)⟩
theorem lw_p138 : lw_okq (⟨"GooseIceModel", "isNewShore", "(I)Z"⟩, 43) := ⟨⟨by decide +kernel, by decide +kernel⟩, List.mem_of_getElem? (i := 1430) (by decide +kernel), List.mem_of_getElem? (i := 1704) (by decide +kernel), List.mem_of_getElem? (i := 1705) (by decide +kernel)⟩
theorem lw_p139 : lw_okq (⟨"GooseIceModel", "oldOne", "(III)Z"⟩, 43) := ⟨⟨by decide +kernel, by decide +kernel⟩, List.mem_of_getElem? (i := 1430) (by decide +kernel), List.mem_of_getElem? (i := 1708) (by decide +kernel), List.mem_of_getElem? (i := 1709) (by decide +kernel)⟩
theorem lw_p140 : lw_okq (⟨"GooseIceModel", "aWalker", "()Z"⟩, 43) := ⟨⟨by decide +kernel, by decide +kernel⟩, List.mem_of_getElem? (i := 1430) (by decide +kernel), List.mem_of_getElem? (i := 1712) (by decide +kernel), List.mem_of_getElem? (i := 1713) (by decide +kernel)⟩
theorem lw_p141 : lw_okq (⟨"GooseIceModel", "once", "(I)Z"⟩, 43) := ⟨⟨by decide +kernel, by decide +kernel⟩, List.mem_of_getElem? (i := 1430) (by decide +kernel), List.mem_of_getElem? (i := 1716) (by decide +kernel), List.mem_of_getElem? (i := 1717) (by decide +kernel)⟩
theorem lw_p142 : lw_okq (⟨"GooseIceModel", "wantSign", "(I)Z"⟩, 43) := ⟨⟨by decide +kernel, by decide +kernel⟩, List.mem_of_getElem? (i := 1430) (by decide +kernel), List.mem_of_getElem? (i := 1720) (by decide +kernel), List.mem_of_getElem? (i := 1721) (by decide +kernel)⟩
theorem lw_p143 : lw_okq (⟨"GooseIceModel", "isSign", "(I)Z"⟩, 43) := ⟨⟨by decide +kernel, by decide +kernel⟩, List.mem_of_getElem? (i := 1430) (by decide +kernel), List.mem_of_getElem? (i := 1724) (by decide +kernel), List.mem_of_getElem? (i := 1725) (by decide +kernel)⟩
def lw_privs_9 : List (MethodName × Nat) := [(⟨"GooseIceModel", "aCell", "(Z)Z"⟩, 43), (⟨"GooseIceModel", "newOne", "(III)Z"⟩, 43), (⟨"GooseIceModel", "fails", "(I)Z"⟩, 43), (⟨"GooseIceModel", "isName", "(Ljava/lang/String;)Z"⟩, 43), (⟨"GooseIceModel", "findHere", "(II)I"⟩, 43), (⟨"GooseIceModel", "nameHere", "()J"⟩, 43), (⟨"GooseIceModel", "wantWord", "(Ljava/lang/String;I)Z"⟩, 43), (⟨"GooseIceModel", "number", "(III)Z"⟩, 43), (⟨"GooseIceModel", "aCouple", "(I)Z"⟩, 43), (⟨"GooseIceModel", "cellHere", "()I"⟩, 43), (⟨"GooseIceModel", "isNewShore", "(I)Z"⟩, 43), (⟨"GooseIceModel", "oldOne", "(III)Z"⟩, 43), (⟨"GooseIceModel", "aWalker", "()Z"⟩, 43), (⟨"GooseIceModel", "once", "(I)Z"⟩, 43), (⟨"GooseIceModel", "wantSign", "(I)Z"⟩, 43), (⟨"GooseIceModel", "isSign", "(I)Z"⟩, 43)]
theorem lw_r9 : ∀ q ∈ lw_privs_9, lw_okq q := List.forall_mem_cons.mpr ⟨lw_p128, List.forall_mem_cons.mpr ⟨lw_p129, List.forall_mem_cons.mpr ⟨lw_p130, List.forall_mem_cons.mpr ⟨lw_p131, List.forall_mem_cons.mpr ⟨lw_p132, List.forall_mem_cons.mpr ⟨lw_p133, List.forall_mem_cons.mpr ⟨lw_p134, List.forall_mem_cons.mpr ⟨lw_p135, List.forall_mem_cons.mpr ⟨lw_p136, List.forall_mem_cons.mpr ⟨lw_p137, List.forall_mem_cons.mpr ⟨lw_p138, List.forall_mem_cons.mpr ⟨lw_p139, List.forall_mem_cons.mpr ⟨lw_p140, List.forall_mem_cons.mpr ⟨lw_p141, List.forall_mem_cons.mpr ⟨lw_p142, List.forall_mem_cons.mpr ⟨lw_p143, fun _ h => absurd h List.not_mem_nil⟩⟩⟩⟩⟩⟩⟩⟩⟩⟩⟩⟩⟩⟩⟩⟩
theorem lw_p144 : lw_okq (⟨"GooseIceModel", "taken", "(I)I"⟩, 43) := ⟨⟨by decide +kernel, by decide +kernel⟩, List.mem_of_getElem? (i := 1430) (by decide +kernel), List.mem_of_getElem? (i := 1728) (by decide +kernel), List.mem_of_getElem? (i := 1729) (by decide +kernel)⟩
theorem lw_p145 : lw_okq (⟨"GooseIceModel", "gives", "(I)I"⟩, 43) := ⟨⟨by decide +kernel, by decide +kernel⟩, List.mem_of_getElem? (i := 1430) (by decide +kernel), List.mem_of_getElem? (i := 1732) (by decide +kernel), List.mem_of_getElem? (i := 1733) (by decide +kernel)⟩
theorem lw_p146 : lw_okq (⟨"GooseIceModel", "taleStep", "()Z"⟩, 43) := ⟨⟨by decide +kernel, by decide +kernel⟩, List.mem_of_getElem? (i := 1430) (by decide +kernel), List.mem_of_getElem? (i := 1740) (by decide +kernel), List.mem_of_getElem? (i := 1741) (by decide +kernel)⟩
theorem lw_p147 : lw_okq (⟨"GooseIceModel", "taleOrder", "(II)Z"⟩, 43) := ⟨⟨by decide +kernel, by decide +kernel⟩, List.mem_of_getElem? (i := 1430) (by decide +kernel), List.mem_of_getElem? (i := 1744) (by decide +kernel), List.mem_of_getElem? (i := 1745) (by decide +kernel)⟩
theorem lw_p148 : lw_okq (⟨"GooseIceModel", "walkerTo", "(I)Z"⟩, 43) := ⟨⟨by decide +kernel, by decide +kernel⟩, List.mem_of_getElem? (i := 1430) (by decide +kernel), List.mem_of_getElem? (i := 1748) (by decide +kernel), List.mem_of_getElem? (i := 1749) (by decide +kernel)⟩
theorem lw_p149 : lw_okq (⟨"GooseIceModel", "cellTo", "(I)Z"⟩, 43) := ⟨⟨by decide +kernel, by decide +kernel⟩, List.mem_of_getElem? (i := 1430) (by decide +kernel), List.mem_of_getElem? (i := 1752) (by decide +kernel), List.mem_of_getElem? (i := 1753) (by decide +kernel)⟩
theorem lw_p150 : lw_okq (⟨"GooseIceModel", "test", "(I)Z"⟩, 43) := ⟨⟨by decide +kernel, by decide +kernel⟩, List.mem_of_getElem? (i := 1430) (by decide +kernel), List.mem_of_getElem? (i := 1756) (by decide +kernel), List.mem_of_getElem? (i := 1757) (by decide +kernel)⟩
theorem lw_p151 : lw_okq (⟨"GooseIceModel", "setOf", "(I)I"⟩, 43) := ⟨⟨by decide +kernel, by decide +kernel⟩, List.mem_of_getElem? (i := 1430) (by decide +kernel), List.mem_of_getElem? (i := 1764) (by decide +kernel), List.mem_of_getElem? (i := 1765) (by decide +kernel)⟩
theorem lw_p152 : lw_okq (⟨"GooseIceModel", "isShore", "(I)Z"⟩, 43) := ⟨⟨by decide +kernel, by decide +kernel⟩, List.mem_of_getElem? (i := 1430) (by decide +kernel), List.mem_of_getElem? (i := 1768) (by decide +kernel), List.mem_of_getElem? (i := 1769) (by decide +kernel)⟩
theorem lw_p153 : lw_okq (⟨"GooseIceModel", "isBroken", "(I)Z"⟩, 43) := ⟨⟨by decide +kernel, by decide +kernel⟩, List.mem_of_getElem? (i := 1430) (by decide +kernel), List.mem_of_getElem? (i := 1775) (by decide +kernel), List.mem_of_getElem? (i := 1776) (by decide +kernel)⟩
theorem lw_p154 : lw_okq (⟨"GooseIceModel", "isWet", "(I)Z"⟩, 43) := ⟨⟨by decide +kernel, by decide +kernel⟩, List.mem_of_getElem? (i := 1430) (by decide +kernel), List.mem_of_getElem? (i := 1779) (by decide +kernel), List.mem_of_getElem? (i := 1780) (by decide +kernel)⟩
theorem lw_p155 : lw_okq (⟨"GooseIceModel", "leftOf", "(I)I"⟩, 43) := ⟨⟨by decide +kernel, by decide +kernel⟩, List.mem_of_getElem? (i := 1430) (by decide +kernel), List.mem_of_getElem? (i := 1786) (by decide +kernel), List.mem_of_getElem? (i := 1787) (by decide +kernel)⟩
theorem lw_p156 : lw_okq (⟨"GooseIceModel", "isIce", "(I)Z"⟩, 43) := ⟨⟨by decide +kernel, by decide +kernel⟩, List.mem_of_getElem? (i := 1430) (by decide +kernel), List.mem_of_getElem? (i := 1794) (by decide +kernel), List.mem_of_getElem? (i := 1795) (by decide +kernel)⟩
theorem lw_p157 : lw_okq (⟨"GooseIceModel", "isCell", "(J)Z"⟩, 43) := ⟨⟨by decide +kernel, by decide +kernel⟩, List.mem_of_getElem? (i := 1430) (by decide +kernel), List.mem_of_getElem? (i := 1798) (by decide +kernel), List.mem_of_getElem? (i := 1799) (by decide +kernel)⟩
theorem lw_p158 : lw_okq (⟨"GooseIceModel", "strengthOf", "(I)I"⟩, 43) := ⟨⟨by decide +kernel, by decide +kernel⟩, List.mem_of_getElem? (i := 1430) (by decide +kernel), List.mem_of_getElem? (i := 1802) (by decide +kernel), List.mem_of_getElem? (i := 1803) (by decide +kernel)⟩
theorem lw_p159 : lw_okq (⟨"GooseIceModel", "cameLately", "(I)I"⟩, 43) := ⟨⟨by decide +kernel, by decide +kernel⟩, List.mem_of_getElem? (i := 1430) (by decide +kernel), List.mem_of_getElem? (i := 1806) (by decide +kernel), List.mem_of_getElem? (i := 1807) (by decide +kernel)⟩
def lw_privs_10 : List (MethodName × Nat) := [(⟨"GooseIceModel", "taken", "(I)I"⟩, 43), (⟨"GooseIceModel", "gives", "(I)I"⟩, 43), (⟨"GooseIceModel", "taleStep", "()Z"⟩, 43), (⟨"GooseIceModel", "taleOrder", "(II)Z"⟩, 43), (⟨"GooseIceModel", "walkerTo", "(I)Z"⟩, 43), (⟨"GooseIceModel", "cellTo", "(I)Z"⟩, 43), (⟨"GooseIceModel", "test", "(I)Z"⟩, 43), (⟨"GooseIceModel", "setOf", "(I)I"⟩, 43), (⟨"GooseIceModel", "isShore", "(I)Z"⟩, 43), (⟨"GooseIceModel", "isBroken", "(I)Z"⟩, 43), (⟨"GooseIceModel", "isWet", "(I)Z"⟩, 43), (⟨"GooseIceModel", "leftOf", "(I)I"⟩, 43), (⟨"GooseIceModel", "isIce", "(I)Z"⟩, 43), (⟨"GooseIceModel", "isCell", "(J)Z"⟩, 43), (⟨"GooseIceModel", "strengthOf", "(I)I"⟩, 43), (⟨"GooseIceModel", "cameLately", "(I)I"⟩, 43)]
theorem lw_r10 : ∀ q ∈ lw_privs_10, lw_okq q := List.forall_mem_cons.mpr ⟨lw_p144, List.forall_mem_cons.mpr ⟨lw_p145, List.forall_mem_cons.mpr ⟨lw_p146, List.forall_mem_cons.mpr ⟨lw_p147, List.forall_mem_cons.mpr ⟨lw_p148, List.forall_mem_cons.mpr ⟨lw_p149, List.forall_mem_cons.mpr ⟨lw_p150, List.forall_mem_cons.mpr ⟨lw_p151, List.forall_mem_cons.mpr ⟨lw_p152, List.forall_mem_cons.mpr ⟨lw_p153, List.forall_mem_cons.mpr ⟨lw_p154, List.forall_mem_cons.mpr ⟨lw_p155, List.forall_mem_cons.mpr ⟨lw_p156, List.forall_mem_cons.mpr ⟨lw_p157, List.forall_mem_cons.mpr ⟨lw_p158, List.forall_mem_cons.mpr ⟨lw_p159, fun _ h => absurd h List.not_mem_nil⟩⟩⟩⟩⟩⟩⟩⟩⟩⟩⟩⟩⟩⟩⟩⟩
theorem lw_p160 : lw_okq (⟨"GooseIceModel", "cameAgo", "(II)I"⟩, 43) := ⟨⟨by decide +kernel, by decide +kernel⟩, List.mem_of_getElem? (i := 1430) (by decide +kernel), List.mem_of_getElem? (i := 1810) (by decide +kernel), List.mem_of_getElem? (i := 1811) (by decide +kernel)⟩
theorem lw_p161 : lw_okq (⟨"GooseIceModel", "loadBut", "(II)I"⟩, 43) := ⟨⟨by decide +kernel, by decide +kernel⟩, List.mem_of_getElem? (i := 1430) (by decide +kernel), List.mem_of_getElem? (i := 1815) (by decide +kernel), List.mem_of_getElem? (i := 1816) (by decide +kernel)⟩
theorem lw_p162 : lw_okq (⟨"GooseIceModel", "whereOf", "(I)I"⟩, 43) := ⟨⟨by decide +kernel, by decide +kernel⟩, List.mem_of_getElem? (i := 1430) (by decide +kernel), List.mem_of_getElem? (i := 1819) (by decide +kernel), List.mem_of_getElem? (i := 1820) (by decide +kernel)⟩
theorem lw_p163 : lw_okq (⟨"GooseIceModel", "isIn", "(II)Z"⟩, 43) := ⟨⟨by decide +kernel, by decide +kernel⟩, List.mem_of_getElem? (i := 1430) (by decide +kernel), List.mem_of_getElem? (i := 1823) (by decide +kernel), List.mem_of_getElem? (i := 1824) (by decide +kernel)⟩
theorem lw_p164 : lw_okq (⟨"GooseIceModel", "weightOf", "(I)I"⟩, 43) := ⟨⟨by decide +kernel, by decide +kernel⟩, List.mem_of_getElem? (i := 1430) (by decide +kernel), List.mem_of_getElem? (i := 1827) (by decide +kernel), List.mem_of_getElem? (i := 1828) (by decide +kernel)⟩
theorem lw_p165 : lw_okq (⟨"GooseIceModel", "isWalker", "(I)Z"⟩, 43) := ⟨⟨by decide +kernel, by decide +kernel⟩, List.mem_of_getElem? (i := 1430) (by decide +kernel), List.mem_of_getElem? (i := 1835) (by decide +kernel), List.mem_of_getElem? (i := 1836) (by decide +kernel)⟩
theorem lw_p166 : lw_okq (⟨"GooseIceModel", "routeOf", "(II)I"⟩, 43) := ⟨⟨by decide +kernel, by decide +kernel⟩, List.mem_of_getElem? (i := 1430) (by decide +kernel), List.mem_of_getElem? (i := 1843) (by decide +kernel), List.mem_of_getElem? (i := 1844) (by decide +kernel)⟩
theorem lw_p167 : lw_okq (⟨"GooseIceModel", "areTwo", "(II)Z"⟩, 43) := ⟨⟨by decide +kernel, by decide +kernel⟩, List.mem_of_getElem? (i := 1430) (by decide +kernel), List.mem_of_getElem? (i := 1851) (by decide +kernel), List.mem_of_getElem? (i := 1852) (by decide +kernel)⟩
theorem lw_p168 : lw_okq (⟨"GooseIceModel", "isWay", "(II)Z"⟩, 43) := ⟨⟨by decide +kernel, by decide +kernel⟩, List.mem_of_getElem? (i := 1430) (by decide +kernel), List.mem_of_getElem? (i := 1855) (by decide +kernel), List.mem_of_getElem? (i := 1856) (by decide +kernel)⟩
theorem lw_p169 : lw_okq (⟨"GooseIceModel", "wrongTray", "(III)I"⟩, 43) := ⟨⟨by decide +kernel, by decide +kernel⟩, List.mem_of_getElem? (i := 1430) (by decide +kernel), List.mem_of_getElem? (i := 1871) (by decide +kernel), List.mem_of_getElem? (i := 1872) (by decide +kernel)⟩
theorem lw_p170 : lw_okq (⟨"GooseIceModel", "isRoute", "(III)Z"⟩, 43) := ⟨⟨by decide +kernel, by decide +kernel⟩, List.mem_of_getElem? (i := 1430) (by decide +kernel), List.mem_of_getElem? (i := 1878) (by decide +kernel), List.mem_of_getElem? (i := 1879) (by decide +kernel)⟩
theorem lw_p171 : lw_okq (⟨"GooseIceModel", "sets", "(III)V"⟩, 43) := ⟨⟨by decide +kernel, by decide +kernel⟩, List.mem_of_getElem? (i := 1430) (by decide +kernel), List.mem_of_getElem? (i := 1882) (by decide +kernel), List.mem_of_getElem? (i := 1883) (by decide +kernel)⟩
theorem lw_p172 : lw_okq (⟨"GooseIceModel", "areBoth", "(II)Z"⟩, 43) := ⟨⟨by decide +kernel, by decide +kernel⟩, List.mem_of_getElem? (i := 1430) (by decide +kernel), List.mem_of_getElem? (i := 1890) (by decide +kernel), List.mem_of_getElem? (i := 1891) (by decide +kernel)⟩
theorem lw_p173 : lw_okq (⟨"GooseIceModel", "sends", "(II)I"⟩, 43) := ⟨⟨by decide +kernel, by decide +kernel⟩, List.mem_of_getElem? (i := 1430) (by decide +kernel), List.mem_of_getElem? (i := 1894) (by decide +kernel), List.mem_of_getElem? (i := 1895) (by decide +kernel)⟩
theorem lw_p174 : lw_okq (⟨"GooseIceModel", "bearers", "(I)I"⟩, 43) := ⟨⟨by decide +kernel, by decide +kernel⟩, List.mem_of_getElem? (i := 1430) (by decide +kernel), List.mem_of_getElem? (i := 1898) (by decide +kernel), List.mem_of_getElem? (i := 1899) (by decide +kernel)⟩
theorem lw_p175 : lw_okq (⟨"GooseIceModel", "doesBear", "(II)Z"⟩, 43) := ⟨⟨by decide +kernel, by decide +kernel⟩, List.mem_of_getElem? (i := 1430) (by decide +kernel), List.mem_of_getElem? (i := 1902) (by decide +kernel), List.mem_of_getElem? (i := 1903) (by decide +kernel)⟩
def lw_privs_11 : List (MethodName × Nat) := [(⟨"GooseIceModel", "cameAgo", "(II)I"⟩, 43), (⟨"GooseIceModel", "loadBut", "(II)I"⟩, 43), (⟨"GooseIceModel", "whereOf", "(I)I"⟩, 43), (⟨"GooseIceModel", "isIn", "(II)Z"⟩, 43), (⟨"GooseIceModel", "weightOf", "(I)I"⟩, 43), (⟨"GooseIceModel", "isWalker", "(I)Z"⟩, 43), (⟨"GooseIceModel", "routeOf", "(II)I"⟩, 43), (⟨"GooseIceModel", "areTwo", "(II)Z"⟩, 43), (⟨"GooseIceModel", "isWay", "(II)Z"⟩, 43), (⟨"GooseIceModel", "wrongTray", "(III)I"⟩, 43), (⟨"GooseIceModel", "isRoute", "(III)Z"⟩, 43), (⟨"GooseIceModel", "sets", "(III)V"⟩, 43), (⟨"GooseIceModel", "areBoth", "(II)Z"⟩, 43), (⟨"GooseIceModel", "sends", "(II)I"⟩, 43), (⟨"GooseIceModel", "bearers", "(I)I"⟩, 43), (⟨"GooseIceModel", "doesBear", "(II)Z"⟩, 43)]
theorem lw_r11 : ∀ q ∈ lw_privs_11, lw_okq q := List.forall_mem_cons.mpr ⟨lw_p160, List.forall_mem_cons.mpr ⟨lw_p161, List.forall_mem_cons.mpr ⟨lw_p162, List.forall_mem_cons.mpr ⟨lw_p163, List.forall_mem_cons.mpr ⟨lw_p164, List.forall_mem_cons.mpr ⟨lw_p165, List.forall_mem_cons.mpr ⟨lw_p166, List.forall_mem_cons.mpr ⟨lw_p167, List.forall_mem_cons.mpr ⟨lw_p168, List.forall_mem_cons.mpr ⟨lw_p169, List.forall_mem_cons.mpr ⟨lw_p170, List.forall_mem_cons.mpr ⟨lw_p171, List.forall_mem_cons.mpr ⟨lw_p172, List.forall_mem_cons.mpr ⟨lw_p173, List.forall_mem_cons.mpr ⟨lw_p174, List.forall_mem_cons.mpr ⟨lw_p175, fun _ h => absurd h List.not_mem_nil⟩⟩⟩⟩⟩⟩⟩⟩⟩⟩⟩⟩⟩⟩⟩⟩
theorem lw_p176 : lw_okq (⟨"GooseIceModel", "marginOf", "(II)I"⟩, 43) := ⟨⟨by decide +kernel, by decide +kernel⟩, List.mem_of_getElem? (i := 1430) (by decide +kernel), List.mem_of_getElem? (i := 1906) (by decide +kernel), List.mem_of_getElem? (i := 1907) (by decide +kernel)⟩
theorem lw_p177 : lw_okq (⟨"GooseIceModel", "laysFar", "(III)I"⟩, 43) := ⟨⟨by decide +kernel, by decide +kernel⟩, List.mem_of_getElem? (i := 1430) (by decide +kernel), List.mem_of_getElem? (i := 1910) (by decide +kernel), List.mem_of_getElem? (i := 1911) (by decide +kernel)⟩
theorem lw_p178 : lw_okq (⟨"GooseIceModel", "nextOn", "(I)I"⟩, 43) := ⟨⟨by decide +kernel, by decide +kernel⟩, List.mem_of_getElem? (i := 1430) (by decide +kernel), List.mem_of_getElem? (i := 1915) (by decide +kernel), List.mem_of_getElem? (i := 1916) (by decide +kernel)⟩
theorem lw_p179 : lw_okq (⟨"GooseIceModel", "goes", "()I"⟩, 43) := ⟨⟨by decide +kernel, by decide +kernel⟩, List.mem_of_getElem? (i := 1430) (by decide +kernel), List.mem_of_getElem? (i := 1928) (by decide +kernel), List.mem_of_getElem? (i := 1929) (by decide +kernel)⟩
theorem lw_p180 : lw_okq (⟨"GooseIceModel", "walks", "(I)V"⟩, 43) := ⟨⟨by decide +kernel, by decide +kernel⟩, List.mem_of_getElem? (i := 1430) (by decide +kernel), List.mem_of_getElem? (i := 1932) (by decide +kernel), List.mem_of_getElem? (i := 1933) (by decide +kernel)⟩
theorem lw_p181 : lw_okq (⟨"GooseIceModel", "breaks", "(I)V"⟩, 43) := ⟨⟨by decide +kernel, by decide +kernel⟩, List.mem_of_getElem? (i := 1430) (by decide +kernel), List.mem_of_getElem? (i := 1936) (by decide +kernel), List.mem_of_getElem? (i := 1937) (by decide +kernel)⟩
theorem lw_p182 : lw_okq (⟨"GooseIceModel", "soaks", "(I)V"⟩, 43) := ⟨⟨by decide +kernel, by decide +kernel⟩, List.mem_of_getElem? (i := 1430) (by decide +kernel), List.mem_of_getElem? (i := 1940) (by decide +kernel), List.mem_of_getElem? (i := 1941) (by decide +kernel)⟩
theorem lw_p183 : lw_okq (⟨"GooseIceModel", "freezes", "(I)I"⟩, 43) := ⟨⟨by decide +kernel, by decide +kernel⟩, List.mem_of_getElem? (i := 1430) (by decide +kernel), List.mem_of_getElem? (i := 1948) (by decide +kernel), List.mem_of_getElem? (i := 1949) (by decide +kernel)⟩
theorem lw_p184 : lw_okq (⟨"GooseIceModel", "thaws", "(I)I"⟩, 43) := ⟨⟨by decide +kernel, by decide +kernel⟩, List.mem_of_getElem? (i := 1430) (by decide +kernel), List.mem_of_getElem? (i := 1956) (by decide +kernel), List.mem_of_getElem? (i := 1957) (by decide +kernel)⟩
theorem lw_p185 : lw_okq (⟨"GooseIceModel", "onWay", "(II)I"⟩, 43) := ⟨⟨by decide +kernel, by decide +kernel⟩, List.mem_of_getElem? (i := 1430) (by decide +kernel), List.mem_of_getElem? (i := 1996) (by decide +kernel), List.mem_of_getElem? (i := 1997) (by decide +kernel)⟩
theorem lw_p186 : lw_okq (⟨"GooseIceModel", "orNone", "(I)I"⟩, 43) := ⟨⟨by decide +kernel, by decide +kernel⟩, List.mem_of_getElem? (i := 1430) (by decide +kernel), List.mem_of_getElem? (i := 2000) (by decide +kernel), List.mem_of_getElem? (i := 2001) (by decide +kernel)⟩
theorem lw_p187 : lw_okq (⟨"GooseIceModel", "isAway", "(II)Z"⟩, 43) := ⟨⟨by decide +kernel, by decide +kernel⟩, List.mem_of_getElem? (i := 1430) (by decide +kernel), List.mem_of_getElem? (i := 2008) (by decide +kernel), List.mem_of_getElem? (i := 2009) (by decide +kernel)⟩
theorem lw_p188 : lw_okq (⟨"GooseIceModel", "laysSurest", "(II)Z"⟩, 43) := ⟨⟨by decide +kernel, by decide +kernel⟩, List.mem_of_getElem? (i := 1430) (by decide +kernel), List.mem_of_getElem? (i := 2012) (by decide +kernel), List.mem_of_getElem? (i := 2013) (by decide +kernel)⟩
theorem lw_p189 : lw_okq (⟨"GooseIceModel", "above", "(II)I"⟩, 43) := ⟨⟨by decide +kernel, by decide +kernel⟩, List.mem_of_getElem? (i := 1430) (by decide +kernel), List.mem_of_getElem? (i := 2017) (by decide +kernel), List.mem_of_getElem? (i := 2018) (by decide +kernel)⟩
theorem lw_p190 : lw_okq (⟨"GooseIceModel", "cutOf", "(II)I"⟩, 43) := ⟨⟨by decide +kernel, by decide +kernel⟩, List.mem_of_getElem? (i := 1430) (by decide +kernel), List.mem_of_getElem? (i := 2037) (by decide +kernel), List.mem_of_getElem? (i := 2038) (by decide +kernel)⟩
theorem lw_p191 : lw_okq (⟨"GooseIceModel", "keeps", "(I)V"⟩, 43) := ⟨⟨by decide +kernel, by decide +kernel⟩, List.mem_of_getElem? (i := 1430) (by decide +kernel), List.mem_of_getElem? (i := 2062) (by decide +kernel), List.mem_of_getElem? (i := 2063) (by decide +kernel)⟩
def lw_privs_12 : List (MethodName × Nat) := [(⟨"GooseIceModel", "marginOf", "(II)I"⟩, 43), (⟨"GooseIceModel", "laysFar", "(III)I"⟩, 43), (⟨"GooseIceModel", "nextOn", "(I)I"⟩, 43), (⟨"GooseIceModel", "goes", "()I"⟩, 43), (⟨"GooseIceModel", "walks", "(I)V"⟩, 43), (⟨"GooseIceModel", "breaks", "(I)V"⟩, 43), (⟨"GooseIceModel", "soaks", "(I)V"⟩, 43), (⟨"GooseIceModel", "freezes", "(I)I"⟩, 43), (⟨"GooseIceModel", "thaws", "(I)I"⟩, 43), (⟨"GooseIceModel", "onWay", "(II)I"⟩, 43), (⟨"GooseIceModel", "orNone", "(I)I"⟩, 43), (⟨"GooseIceModel", "isAway", "(II)Z"⟩, 43), (⟨"GooseIceModel", "laysSurest", "(II)Z"⟩, 43), (⟨"GooseIceModel", "above", "(II)I"⟩, 43), (⟨"GooseIceModel", "cutOf", "(II)I"⟩, 43), (⟨"GooseIceModel", "keeps", "(I)V"⟩, 43)]
theorem lw_r12 : ∀ q ∈ lw_privs_12, lw_okq q := List.forall_mem_cons.mpr ⟨lw_p176, List.forall_mem_cons.mpr ⟨lw_p177, List.forall_mem_cons.mpr ⟨lw_p178, List.forall_mem_cons.mpr ⟨lw_p179, List.forall_mem_cons.mpr ⟨lw_p180, List.forall_mem_cons.mpr ⟨lw_p181, List.forall_mem_cons.mpr ⟨lw_p182, List.forall_mem_cons.mpr ⟨lw_p183, List.forall_mem_cons.mpr ⟨lw_p184, List.forall_mem_cons.mpr ⟨lw_p185, List.forall_mem_cons.mpr ⟨lw_p186, List.forall_mem_cons.mpr ⟨lw_p187, List.forall_mem_cons.mpr ⟨lw_p188, List.forall_mem_cons.mpr ⟨lw_p189, List.forall_mem_cons.mpr ⟨lw_p190, List.forall_mem_cons.mpr ⟨lw_p191, fun _ h => absurd h List.not_mem_nil⟩⟩⟩⟩⟩⟩⟩⟩⟩⟩⟩⟩⟩⟩⟩⟩
theorem lw_p192 : lw_okq (⟨"GooseIceModel", "stills", "()V"⟩, 43) := ⟨⟨by decide +kernel, by decide +kernel⟩, List.mem_of_getElem? (i := 1430) (by decide +kernel), List.mem_of_getElem? (i := 2066) (by decide +kernel), List.mem_of_getElem? (i := 2067) (by decide +kernel)⟩
theorem lw_p193 : lw_okq (⟨"GooseIceModel", "restores", "(I)V"⟩, 43) := ⟨⟨by decide +kernel, by decide +kernel⟩, List.mem_of_getElem? (i := 1430) (by decide +kernel), List.mem_of_getElem? (i := 2070) (by decide +kernel), List.mem_of_getElem? (i := 2071) (by decide +kernel)⟩
theorem lw_p194 : lw_okq (⟨"GooseIceModel", "wrongQueue", "(III)I"⟩, 43) := ⟨⟨by decide +kernel, by decide +kernel⟩, List.mem_of_getElem? (i := 1430) (by decide +kernel), List.mem_of_getElem? (i := 2078) (by decide +kernel), List.mem_of_getElem? (i := 2079) (by decide +kernel)⟩
theorem lw_p195 : lw_okq (⟨"GooseIceModel", "queued", "(III)I"⟩, 43) := ⟨⟨by decide +kernel, by decide +kernel⟩, List.mem_of_getElem? (i := 1430) (by decide +kernel), List.mem_of_getElem? (i := 2082) (by decide +kernel), List.mem_of_getElem? (i := 2083) (by decide +kernel)⟩
theorem lw_p196 : lw_okq (⟨"GooseIceModel", "gapsOn", "(I)Z"⟩, 43) := ⟨⟨by decide +kernel, by decide +kernel⟩, List.mem_of_getElem? (i := 1430) (by decide +kernel), List.mem_of_getElem? (i := 2086) (by decide +kernel), List.mem_of_getElem? (i := 2087) (by decide +kernel)⟩
theorem lw_p197 : lw_okq (⟨"GooseIceModel", "turnsOn", "(I)Z"⟩, 43) := ⟨⟨by decide +kernel, by decide +kernel⟩, List.mem_of_getElem? (i := 1430) (by decide +kernel), List.mem_of_getElem? (i := 2090) (by decide +kernel), List.mem_of_getElem? (i := 2091) (by decide +kernel)⟩
theorem lw_p198 : lw_okq (⟨"GooseIceModel", "swaps", "(II)V"⟩, 43) := ⟨⟨by decide +kernel, by decide +kernel⟩, List.mem_of_getElem? (i := 1430) (by decide +kernel), List.mem_of_getElem? (i := 2094) (by decide +kernel), List.mem_of_getElem? (i := 2095) (by decide +kernel)⟩
theorem lw_p199 : lw_okq (⟨"GooseIceModel", "isGroup", "(I)Z"⟩, 43) := ⟨⟨by decide +kernel, by decide +kernel⟩, List.mem_of_getElem? (i := 1430) (by decide +kernel), List.mem_of_getElem? (i := 2110) (by decide +kernel), List.mem_of_getElem? (i := 2111) (by decide +kernel)⟩
theorem lw_p200 : lw_okq (⟨"GooseIceModel", "halfOf", "(I)I"⟩, 43) := ⟨⟨by decide +kernel, by decide +kernel⟩, List.mem_of_getElem? (i := 1430) (by decide +kernel), List.mem_of_getElem? (i := 2114) (by decide +kernel), List.mem_of_getElem? (i := 2115) (by decide +kernel)⟩
theorem lw_p201 : lw_okq (⟨"GooseIceModel", "apart", "(II)I"⟩, 43) := ⟨⟨by decide +kernel, by decide +kernel⟩, List.mem_of_getElem? (i := 1430) (by decide +kernel), List.mem_of_getElem? (i := 2118) (by decide +kernel), List.mem_of_getElem? (i := 2119) (by decide +kernel)⟩
theorem lw_p202 : lw_okq (⟨"GooseIceModel", "weightOfAll", "(I)I"⟩, 43) := ⟨⟨by decide +kernel, by decide +kernel⟩, List.mem_of_getElem? (i := 1430) (by decide +kernel), List.mem_of_getElem? (i := 2122) (by decide +kernel), List.mem_of_getElem? (i := 2123) (by decide +kernel)⟩
theorem lw_p203 : lw_okq (⟨"GooseIceModel", "trialsOf", "(II)I"⟩, 43) := ⟨⟨by decide +kernel, by decide +kernel⟩, List.mem_of_getElem? (i := 1430) (by decide +kernel), List.mem_of_getElem? (i := 2144) (by decide +kernel), List.mem_of_getElem? (i := 2145) (by decide +kernel)⟩
theorem lw_p204 : lw_okq (⟨"GooseIceModel", "triedAt", "(III)I"⟩, 43) := ⟨⟨by decide +kernel, by decide +kernel⟩, List.mem_of_getElem? (i := 1430) (by decide +kernel), List.mem_of_getElem? (i := 2148) (by decide +kernel), List.mem_of_getElem? (i := 2149) (by decide +kernel)⟩
theorem lw_p205 : lw_okq (⟨"GooseIceModel", "isSuspect", "(II)Z"⟩, 43) := ⟨⟨by decide +kernel, by decide +kernel⟩, List.mem_of_getElem? (i := 1430) (by decide +kernel), List.mem_of_getElem? (i := 2160) (by decide +kernel), List.mem_of_getElem? (i := 2161) (by decide +kernel)⟩
theorem lw_p206 : lw_okq (⟨"GooseIceModel", "areDays", "(IIII)Z"⟩, 43) := ⟨⟨by decide +kernel, by decide +kernel⟩, List.mem_of_getElem? (i := 1430) (by decide +kernel), List.mem_of_getElem? (i := 2168) (by decide +kernel), List.mem_of_getElem? (i := 2169) (by decide +kernel)⟩
theorem lw_p207 : lw_okq (⟨"GooseIceModel", "laysDays", "(IIII)J"⟩, 43) := ⟨⟨by decide +kernel, by decide +kernel⟩, List.mem_of_getElem? (i := 1430) (by decide +kernel), List.mem_of_getElem? (i := 2174) (by decide +kernel), List.mem_of_getElem? (i := 2175) (by decide +kernel)⟩
def lw_privs_13 : List (MethodName × Nat) := [(⟨"GooseIceModel", "stills", "()V"⟩, 43), (⟨"GooseIceModel", "restores", "(I)V"⟩, 43), (⟨"GooseIceModel", "wrongQueue", "(III)I"⟩, 43), (⟨"GooseIceModel", "queued", "(III)I"⟩, 43), (⟨"GooseIceModel", "gapsOn", "(I)Z"⟩, 43), (⟨"GooseIceModel", "turnsOn", "(I)Z"⟩, 43), (⟨"GooseIceModel", "swaps", "(II)V"⟩, 43), (⟨"GooseIceModel", "isGroup", "(I)Z"⟩, 43), (⟨"GooseIceModel", "halfOf", "(I)I"⟩, 43), (⟨"GooseIceModel", "apart", "(II)I"⟩, 43), (⟨"GooseIceModel", "weightOfAll", "(I)I"⟩, 43), (⟨"GooseIceModel", "trialsOf", "(II)I"⟩, 43), (⟨"GooseIceModel", "triedAt", "(III)I"⟩, 43), (⟨"GooseIceModel", "isSuspect", "(II)Z"⟩, 43), (⟨"GooseIceModel", "areDays", "(IIII)Z"⟩, 43), (⟨"GooseIceModel", "laysDays", "(IIII)J"⟩, 43)]
theorem lw_r13 : ∀ q ∈ lw_privs_13, lw_okq q := List.forall_mem_cons.mpr ⟨lw_p192, List.forall_mem_cons.mpr ⟨lw_p193, List.forall_mem_cons.mpr ⟨lw_p194, List.forall_mem_cons.mpr ⟨lw_p195, List.forall_mem_cons.mpr ⟨lw_p196, List.forall_mem_cons.mpr ⟨lw_p197, List.forall_mem_cons.mpr ⟨lw_p198, List.forall_mem_cons.mpr ⟨lw_p199, List.forall_mem_cons.mpr ⟨lw_p200, List.forall_mem_cons.mpr ⟨lw_p201, List.forall_mem_cons.mpr ⟨lw_p202, List.forall_mem_cons.mpr ⟨lw_p203, List.forall_mem_cons.mpr ⟨lw_p204, List.forall_mem_cons.mpr ⟨lw_p205, List.forall_mem_cons.mpr ⟨lw_p206, List.forall_mem_cons.mpr ⟨lw_p207, fun _ h => absurd h List.not_mem_nil⟩⟩⟩⟩⟩⟩⟩⟩⟩⟩⟩⟩⟩⟩⟩⟩
theorem lw_p208 : lw_okq (⟨"GooseIceModel", "bearsNow", "(I)I"⟩, 43) := ⟨⟨by decide +kernel, by decide +kernel⟩, List.mem_of_getElem? (i := 1430) (by decide +kernel), List.mem_of_getElem? (i := 2178) (by decide +kernel), List.mem_of_getElem? (i := 2179) (by decide +kernel)⟩
theorem lw_p209 : lw_okq (⟨"GooseIceModel", "waysTo", "(II)J"⟩, 43) := ⟨⟨by decide +kernel, by decide +kernel⟩, List.mem_of_getElem? (i := 1430) (by decide +kernel), List.mem_of_getElem? (i := 2182) (by decide +kernel), List.mem_of_getElem? (i := 2183) (by decide +kernel)⟩
theorem lw_p210 : lw_okq (⟨"GooseIceModel", "tellsBy", "(JJ)Z"⟩, 43) := ⟨⟨by decide +kernel, by decide +kernel⟩, List.mem_of_getElem? (i := 1430) (by decide +kernel), List.mem_of_getElem? (i := 2186) (by decide +kernel), List.mem_of_getElem? (i := 2187) (by decide +kernel)⟩
theorem lw_p211 : lw_okq (⟨"GooseIceModel", "lives", "(I)V"⟩, 43) := ⟨⟨by decide +kernel, by decide +kernel⟩, List.mem_of_getElem? (i := 1430) (by decide +kernel), List.mem_of_getElem? (i := 2203) (by decide +kernel), List.mem_of_getElem? (i := 2204) (by decide +kernel)⟩
theorem lw_p212 : lw_okq (⟨"GooseIceModel", "does", "(I)Z"⟩, 43) := ⟨⟨by decide +kernel, by decide +kernel⟩, List.mem_of_getElem? (i := 1430) (by decide +kernel), List.mem_of_getElem? (i := 2207) (by decide +kernel), List.mem_of_getElem? (i := 2208) (by decide +kernel)⟩
theorem lw_p213 : lw_okq (⟨"GooseIceModel", "sendsBy", "(II)Z"⟩, 43) := ⟨⟨by decide +kernel, by decide +kernel⟩, List.mem_of_getElem? (i := 1430) (by decide +kernel), List.mem_of_getElem? (i := 2211) (by decide +kernel), List.mem_of_getElem? (i := 2212) (by decide +kernel)⟩
theorem lw_p214 : lw_okq (⟨"GooseIceModel", "stepsOn", "(I)Z"⟩, 43) := ⟨⟨by decide +kernel, by decide +kernel⟩, List.mem_of_getElem? (i := 1430) (by decide +kernel), List.mem_of_getElem? (i := 2215) (by decide +kernel), List.mem_of_getElem? (i := 2216) (by decide +kernel)⟩
theorem lw_p215 : lw_okq (⟨"GooseIceModel", "sendsAny", "()Z"⟩, 43) := ⟨⟨by decide +kernel, by decide +kernel⟩, List.mem_of_getElem? (i := 1430) (by decide +kernel), List.mem_of_getElem? (i := 2219) (by decide +kernel), List.mem_of_getElem? (i := 2220) (by decide +kernel)⟩
theorem lw_p216 : lw_okq (⟨"GooseIceModel", "draw", "(I)I"⟩, 43) := ⟨⟨by decide +kernel, by decide +kernel⟩, List.mem_of_getElem? (i := 1430) (by decide +kernel), List.mem_of_getElem? (i := 2223) (by decide +kernel), List.mem_of_getElem? (i := 2224) (by decide +kernel)⟩
theorem lw_p217 : lw_okq (⟨"GooseIceModel", "isSo", "(I)Z"⟩, 43) := ⟨⟨by decide +kernel, by decide +kernel⟩, List.mem_of_getElem? (i := 1430) (by decide +kernel), List.mem_of_getElem? (i := 2228) (by decide +kernel), List.mem_of_getElem? (i := 2229) (by decide +kernel)⟩
theorem lw_p218 : lw_okq (⟨"GooseIceModel", "behindEnds", "(I)I"⟩, 43) := ⟨⟨by decide +kernel, by decide +kernel⟩, List.mem_of_getElem? (i := 1430) (by decide +kernel), List.mem_of_getElem? (i := 2232) (by decide +kernel), List.mem_of_getElem? (i := 2233) (by decide +kernel)⟩
theorem lw_p219 : lw_okq (⟨"GooseIceModel", "copies", "(II)V"⟩, 43) := ⟨⟨by decide +kernel, by decide +kernel⟩, List.mem_of_getElem? (i := 1430) (by decide +kernel), List.mem_of_getElem? (i := 2248) (by decide +kernel), List.mem_of_getElem? (i := 2249) (by decide +kernel)⟩
def lw_privs_14 : List (MethodName × Nat) := [(⟨"GooseIceModel", "bearsNow", "(I)I"⟩, 43), (⟨"GooseIceModel", "waysTo", "(II)J"⟩, 43), (⟨"GooseIceModel", "tellsBy", "(JJ)Z"⟩, 43), (⟨"GooseIceModel", "lives", "(I)V"⟩, 43), (⟨"GooseIceModel", "does", "(I)Z"⟩, 43), (⟨"GooseIceModel", "sendsBy", "(II)Z"⟩, 43), (⟨"GooseIceModel", "stepsOn", "(I)Z"⟩, 43), (⟨"GooseIceModel", "sendsAny", "()Z"⟩, 43), (⟨"GooseIceModel", "draw", "(I)I"⟩, 43), (⟨"GooseIceModel", "isSo", "(I)Z"⟩, 43), (⟨"GooseIceModel", "behindEnds", "(I)I"⟩, 43), (⟨"GooseIceModel", "copies", "(II)V"⟩, 43)]
theorem lw_r14 : ∀ q ∈ lw_privs_14, lw_okq q := List.forall_mem_cons.mpr ⟨lw_p208, List.forall_mem_cons.mpr ⟨lw_p209, List.forall_mem_cons.mpr ⟨lw_p210, List.forall_mem_cons.mpr ⟨lw_p211, List.forall_mem_cons.mpr ⟨lw_p212, List.forall_mem_cons.mpr ⟨lw_p213, List.forall_mem_cons.mpr ⟨lw_p214, List.forall_mem_cons.mpr ⟨lw_p215, List.forall_mem_cons.mpr ⟨lw_p216, List.forall_mem_cons.mpr ⟨lw_p217, List.forall_mem_cons.mpr ⟨lw_p218, List.forall_mem_cons.mpr ⟨lw_p219, fun _ h => absurd h List.not_mem_nil⟩⟩⟩⟩⟩⟩⟩⟩⟩⟩⟩⟩
def lw_privs : List (MethodName × Nat) := lw_privs_1 ++ (lw_privs_2 ++ (lw_privs_3 ++ (lw_privs_4 ++ (lw_privs_5 ++ (lw_privs_6 ++ (lw_privs_7 ++ (lw_privs_8 ++ (lw_privs_9 ++ (lw_privs_10 ++ (lw_privs_11 ++ (lw_privs_12 ++ (lw_privs_13 ++ (lw_privs_14)))))))))))))
def lw_tbl : List Cond := k2_sels lw_privs ++ tables_1
theorem lw_privs_ok : ∀ q ∈ lw_privs, lw_okq q := by
  show ∀ q ∈ lw_privs_1 ++ (lw_privs_2 ++ (lw_privs_3 ++ (lw_privs_4 ++ (lw_privs_5 ++ (lw_privs_6 ++ (lw_privs_7 ++ (lw_privs_8 ++ (lw_privs_9 ++ (lw_privs_10 ++ (lw_privs_11 ++ (lw_privs_12 ++ (lw_privs_13 ++ (lw_privs_14))))))))))))), lw_okq q
  exact List.forall_mem_append.mpr ⟨lw_r1, List.forall_mem_append.mpr ⟨lw_r2, List.forall_mem_append.mpr ⟨lw_r3, List.forall_mem_append.mpr ⟨lw_r4, List.forall_mem_append.mpr ⟨lw_r5, List.forall_mem_append.mpr ⟨lw_r6, List.forall_mem_append.mpr ⟨lw_r7, List.forall_mem_append.mpr ⟨lw_r8, List.forall_mem_append.mpr ⟨lw_r9, List.forall_mem_append.mpr ⟨lw_r10, List.forall_mem_append.mpr ⟨lw_r11, List.forall_mem_append.mpr ⟨lw_r12, List.forall_mem_append.mpr ⟨lw_r13, lw_r14⟩⟩⟩⟩⟩⟩⟩⟩⟩⟩⟩⟩⟩
end
section
/-! ===== rk: a symbolic executor over bytecode with an exact heap: values, what they stand for ===== -/
/-- a literal, a cell by its number, a symbol by its number, or an int symbol made wide (a long) -/
abbrev rk_V : Type := Value ⊕ (Nat ⊕ (Nat ⊕ Nat))
/-- what is known of a symbol: 0 int, 1 long; its bounds; 2 a reference -/
abbrev rk_T : Type := Nat × Int × Int
/-- a cell: an object (number of its class, fields), or an array (tag, length, what it holds but for the listed places) -/
abbrev rk_C : Type := (Nat × List rk_V) ⊕ (Nat × Nat × rk_V × List (Nat × rk_V))
def rk_A2 {α β : Type} (R : α → β → Prop) : List α → List β → Prop
  | [], [] => True
  | a :: l, b :: l' => R a b ∧ rk_A2 R l l'
  | _, _ => False
theorem rk_A2.get {α β : Type} {R : α → β → Prop} : ∀ {l : List α} {l' : List β}, rk_A2 R l l' → ∀ {i : Nat} {a : α}, l[i]? = some a → ∃ b, l'[i]? = some b ∧ R a b := by
  intro l
  induction l with
  | nil => intro l' _ i a h; simp at h
  | cons x l ih =>
    intro l' h i a hi
    cases l' with
    | nil => exact h.elim
    | cons y l' =>
      cases i with
      | zero => simp at hi; subst hi; exact ⟨y, by simp, h.1⟩
      | succ i => simp at hi ⊢; exact ih h.2 hi
theorem rk_A2.getR {α β : Type} {R : α → β → Prop} : ∀ {l : List α} {l' : List β}, rk_A2 R l l' → ∀ {i : Nat} {b : β}, l'[i]? = some b → ∃ a, l[i]? = some a ∧ R a b := by
  intro l
  induction l with
  | nil => intro l' h i b hi; cases l' with
    | nil => simp at hi
    | cons y l' => exact h.elim
  | cons x l ih =>
    intro l' h i b hi
    cases l' with
    | nil => exact h.elim
    | cons y l' =>
      cases i with
      | zero => simp at hi; subst hi; exact ⟨x, by simp, h.1⟩
      | succ i => simp at hi ⊢; exact ih h.2 hi
theorem rk_A2.len {α β : Type} {R : α → β → Prop} : ∀ {l : List α} {l' : List β}, rk_A2 R l l' → l.length = l'.length := by
  intro l
  induction l with
  | nil => intro l' h; cases l' with
    | nil => rfl
    | cons y l' => exact h.elim
  | cons x l ih => intro l' h; cases l' with
    | nil => exact h.elim
    | cons y l' => simp [ih h.2]
theorem rk_A2.mono {α β : Type} {R R' : α → β → Prop} (hR : ∀ a b, R a b → R' a b) : ∀ {l : List α} {l' : List β}, rk_A2 R l l' → rk_A2 R' l l' := by
  intro l
  induction l with
  | nil => intro l' h; cases l' with
    | nil => trivial
    | cons y l' => exact h.elim
  | cons x l ih => intro l' h; cases l' with
    | nil => exact h.elim
    | cons y l' => exact ⟨hR _ _ h.1, ih h.2⟩
theorem rk_A2.set {α β : Type} {R : α → β → Prop} {a : α} {b : β} (hr : R a b) : ∀ {l : List α} {l' : List β}, rk_A2 R l l' → ∀ (i : Nat), rk_A2 R (l.set i a) (l'.set i b) := by
  intro l
  induction l with
  | nil => intro l' h i; cases l' with
    | nil => simp [rk_A2]
    | cons y l' => exact h.elim
  | cons x l ih => intro l' h i; cases l' with
    | nil => exact h.elim
    | cons y l' => cases i with
      | zero => exact ⟨hr, h.2⟩
      | succ i => exact ⟨h.1, ih h.2 i⟩
/-- only the left one is set, at a place that fits -/
theorem rk_A2.setL {α β : Type} {R : α → β → Prop} {a : α} {b : β} (hr : R a b) : ∀ {l : List α} {l' : List β}, rk_A2 R l l' → ∀ {i : Nat}, l'[i]? = some b → rk_A2 R (l.set i a) l' := by
  intro l
  induction l with
  | nil => intro l' h i hi; cases l' with
    | nil => simp at hi
    | cons y l' => exact h.elim
  | cons x l ih => intro l' h i hi; cases l' with
    | nil => exact h.elim
    | cons y l' => cases i with
      | zero => simp at hi; subst hi; exact ⟨hr, h.2⟩
      | succ i => simp at hi; exact ⟨h.1, ih h.2 hi⟩
theorem rk_A2.app {α β : Type} {R : α → β → Prop} {k : List α} {k' : List β} (hk : rk_A2 R k k') : ∀ {l : List α} {l' : List β}, rk_A2 R l l' → rk_A2 R (l ++ k) (l' ++ k') := by
  intro l
  induction l with
  | nil => intro l' h; cases l' with
    | nil => exact hk
    | cons y l' => exact h.elim
  | cons x l ih => intro l' h; cases l' with
    | nil => exact h.elim
    | cons y l' => exact ⟨h.1, ih h.2⟩
theorem rk_A2.push {α β : Type} {R : α → β → Prop} {a : α} {b : β} {l : List α} {l' : List β} (h : rk_A2 R l l') (hr : R a b) : rk_A2 R (l ++ [a]) (l' ++ [b]) := rk_A2.app (k := [a]) (k' := [b]) ⟨hr, trivial⟩ h
theorem rk_A2.filter {α β : Type} {R : α → β → Prop} {P : α → Bool} {P' : β → Bool} (hP : ∀ a b, R a b → P a = P' b) : ∀ {l : List α} {l' : List β}, rk_A2 R l l' → rk_A2 R (l.filter P) (l'.filter P') := by
  intro l
  induction l with
  | nil => intro l' h; cases l' with
    | nil => trivial
    | cons y l' => exact h.elim
  | cons x l ih => intro l' h; cases l' with
    | nil => exact h.elim
    | cons y l' =>
      have e := hP _ _ h.1
      by_cases q : P x = true
      · rw [List.filter_cons_of_pos q, List.filter_cons_of_pos (e ▸ q)]
        exact ⟨h.1, ih h.2⟩
      · rw [List.filter_cons_of_neg q, List.filter_cons_of_neg (e ▸ q)]
        exact ih h.2
theorem rk_A2.nil {α β : Type} {R : α → β → Prop} {l' : List β} (h : rk_A2 R ([] : List α) l') : l' = [] := by
  cases l' with
  | nil => rfl
  | cons y l' => exact h.elim
theorem rk_A2.cons {α β : Type} {R : α → β → Prop} {a : α} {l : List α} {l' : List β} (h : rk_A2 R (a :: l) l') : ∃ b k, l' = b :: k ∧ R a b ∧ rk_A2 R l k := by
  cases l' with
  | nil => exact h.elim
  | cons y l' => exact ⟨y, l', rfl, h.1, h.2⟩
/-- what a value of the executor stands for -/
def rk_g (vals : List Value) (ads : List Nat) (a : rk_V) (v : Value) : Prop := match a with
  | .inl w => v = w
  | .inr (.inl j) => ∃ x, ads[j]? = some x ∧ v = .ref x
  | .inr (.inr (.inl k)) => vals[k]? = some v
  | .inr (.inr (.inr k)) => ∃ x : Int32, vals[k]? = some (.int x) ∧ v = .long x.toInt64
theorem rk_g.grow {vals vals' : List Value} {ads ads' : List Nat} {a : rk_V} {v : Value} (h : rk_g vals ads a v) (hv : ∃ l, vals' = vals ++ l) (ha : ∃ l, ads' = ads ++ l) : rk_g vals' ads' a v := by
  obtain ⟨l1, rfl⟩ := hv
  obtain ⟨l2, rfl⟩ := ha
  rcases a with w | j | k | k
  · exact h
  · obtain ⟨x, hx, rfl⟩ := h
    exact ⟨x, by rw [List.getElem?_append_left (List.getElem?_eq_some_iff.mp hx).1]; exact hx, rfl⟩
  · show (vals ++ l1)[k]? = some v
    have h' : vals[k]? = some v := h
    rw [List.getElem?_append_left (List.getElem?_eq_some_iff.mp h').1]
    exact h'
  · obtain ⟨x, hx, rfl⟩ := h
    exact ⟨x, by rw [List.getElem?_append_left (List.getElem?_eq_some_iff.mp hx).1]; exact hx, rfl⟩
def rk_tok (t : rk_T) (v : Value) : Prop := (t.1 = 0 ∧ ∃ x : Int32, v = .int x ∧ t.2.1 ≤ x.toInt ∧ x.toInt ≤ t.2.2) ∨ (t.1 = 1 ∧ ∃ x : Int64, v = .long x ∧ t.2.1 ≤ x.toInt ∧ x.toInt ≤ t.2.2) ∨ (t.1 = 2 ∧ ∃ x : Nat, v = .ref x)
def rk_E (env : List rk_T) (vals : List Value) : Prop := rk_A2 rk_tok env vals
def rk_cat (env : List rk_T) (a : rk_V) : Nat := match a with
  | .inl v => v.category
  | .inr (.inl _) => 1
  | .inr (.inr (.inl k)) => match env[k]? with
    | some t => if t.1 = 1 then 2 else 1
    | none => 1
  | .inr (.inr (.inr _)) => 2
theorem rk_cat_ok {env : List rk_T} {vals : List Value} {ads : List Nat} {a : rk_V} {v : Value} (hE : rk_E env vals) (h : rk_g vals ads a v) : rk_cat env a = v.category := by
  rcases a with w | j | k | k
  · have h : v = w := h
    subst h; rfl
  · obtain ⟨x, -, rfl⟩ := h
    rfl
  rotate_left
  · obtain ⟨x, -, rfl⟩ := h
    rfl
  · obtain ⟨t, ht, hr⟩ := hE.getR (show vals[k]? = some v from h)
    show (match env[k]? with
      | some t => if t.1 = 1 then 2 else 1
      | none => 1) = v.category
    rw [ht]
    rcases hr with ⟨h0, x, rfl, -⟩ | ⟨h1, x, rfl, -⟩ | ⟨h1, x, rfl⟩
    · simp [h0, Value.category]
    · simp [h1, Value.category]
    · simp [h1, Value.category]
/-- the bounds of an int -/
def rk_iv (env : List rk_T) (a : rk_V) : Option (Int × Int) := match a with
  | .inl (.int x) => some (x.toInt, x.toInt)
  | .inr (.inr (.inl k)) => match env[k]? with
    | some t => if t.1 = 0 then some t.2 else none
    | none => none
  | _ => none
theorem rk_iv_ok {env : List rk_T} {vals : List Value} {ads : List Nat} {a : rk_V} {v : Value} {I : Int × Int} (hE : rk_E env vals) (h : rk_g vals ads a v) (hi : rk_iv env a = some I) : ∃ x : Int32, v = .int x ∧ I.1 ≤ x.toInt ∧ x.toInt ≤ I.2 := by
  rcases a with w | j | k | k
  · have h : v = w := h
    subst h
    cases v <;> simp [rk_iv] at hi
    subst hi
    exact ⟨_, rfl, Int.le_refl _, Int.le_refl _⟩
  · simp [rk_iv] at hi
  rotate_left
  · simp [rk_iv] at hi
  · obtain ⟨t, ht, hr⟩ := hE.getR (show vals[k]? = some v from h)
    simp only [rk_iv, ht] at hi
    rcases hr with ⟨h0, x, rfl, h1, h2⟩ | ⟨h1, x, rfl, -⟩ | ⟨h1, x, rfl⟩
    · simp [h0] at hi
      subst hi
      exact ⟨x, rfl, h1, h2⟩
    · simp [h1] at hi
    · simp [h1] at hi
/-- is it a long? -/
def rk_isL (env : List rk_T) (a : rk_V) : Bool := match a with
  | .inl (.long _) => true
  | .inr (.inr (.inl k)) => match env[k]? with
    | some t => t.1 == 1
    | none => false
  | .inr (.inr (.inr _)) => true
  | _ => false
theorem rk_isL_ok {env : List rk_T} {vals : List Value} {ads : List Nat} {a : rk_V} {v : Value} (hE : rk_E env vals) (h : rk_g vals ads a v) (hi : rk_isL env a = true) : ∃ x : Int64, v = .long x := by
  rcases a with w | j | k | k
  · have h : v = w := h
    subst h
    cases v <;> simp [rk_isL] at hi
    exact ⟨_, rfl⟩
  · simp [rk_isL] at hi
  rotate_left
  · obtain ⟨x, -, rfl⟩ := h
    exact ⟨_, rfl⟩
  · obtain ⟨t, ht, hr⟩ := hE.getR (show vals[k]? = some v from h)
    simp only [rk_isL, ht] at hi
    rcases hr with ⟨h0, x, rfl, h1, h2⟩ | ⟨h1, x, rfl, -⟩ | ⟨h1, x, rfl⟩
    · simp [h0] at hi
    · exact ⟨x, rfl⟩
    · simp [h1] at hi
/-- an int of which the bounds are known: a literal, or a new symbol -/
def rk_fi (env : List rk_T) (I : Int × Int) : rk_V × List rk_T := if I.1 = I.2 then (.inl (.int (Int32.ofInt I.1)), env) else (.inr (.inr (.inl env.length)), env ++ [(0, I)])
theorem rk_fi_ok {env : List rk_T} {vals : List Value} (ads : List Nat) {I : Int × Int} {x : Int32} (hE : rk_E env vals) (h1 : I.1 ≤ x.toInt) (h2 : x.toInt ≤ I.2) : ∃ l, rk_E (rk_fi env I).2 (vals ++ l) ∧ rk_g (vals ++ l) ads (rk_fi env I).1 (.int x) := by
  unfold rk_fi
  split
  · next e =>
    refine ⟨[], by simpa using hE, ?_⟩
    show Value.int x = Value.int (Int32.ofInt I.1)
    have : I.1 = x.toInt := by omega
    rw [this, Int32.ofInt_toInt]
  · refine ⟨[.int x], rk_A2.push hE (Or.inl ⟨rfl, x, rfl, h1, h2⟩), ?_⟩
    show (vals ++ [Value.int x])[env.length]? = some (.int x)
    rw [hE.len]
    simp
def rk_fl (env : List rk_T) : rk_V × List rk_T := (.inr (.inr (.inl env.length)), env ++ [(1, -9223372036854775808, 9223372036854775807)])
theorem rk_fl_ok {env : List rk_T} {vals : List Value} (ads : List Nat) {x : Int64} (hE : rk_E env vals) : ∃ l, rk_E (rk_fl env).2 (vals ++ l) ∧ rk_g (vals ++ l) ads (rk_fl env).1 (.long x) := by
  refine ⟨[.long x], rk_A2.push hE (Or.inr (Or.inl ⟨rfl, x, rfl, ?_, ?_⟩)), ?_⟩
  · exact Int64.le_toInt x
  · exact Int64.toInt_le x
  · show (vals ++ [Value.long x])[env.length]? = some (.long x)
    rw [hE.len]
    simp
/-- the bounds of a value are narrowed; none: that can't be -/
def rk_cut (env : List rk_T) (a : rk_V) (lo hi : Int) : Option (List rk_T) := match rk_iv env a with
  | some I => if max lo I.1 ≤ min hi I.2 then (match a with
    | .inr (.inr (.inl k)) => some (env.set k (0, max lo I.1, min hi I.2))
    | _ => some env) else none
  | none => some env
theorem rk_cut_ok {env : List rk_T} {vals : List Value} {ads : List Nat} {a : rk_V} {x : Int32} {lo hi : Int} (hE : rk_E env vals) (h : rk_g vals ads a (.int x)) (h1 : lo ≤ x.toInt) (h2 : x.toInt ≤ hi) : ∃ env', rk_cut env a lo hi = some env' ∧ rk_E env' vals := by
  unfold rk_cut
  cases hi' : rk_iv env a with
  | none => exact ⟨env, rfl, hE⟩
  | some I =>
    obtain ⟨y, e, h3, h4⟩ := rk_iv_ok hE h hi'
    cases e
    have hle : max lo I.1 ≤ min hi I.2 := by omega
    simp only [hle, if_true]
    rcases a with w | j | k | k
    · exact ⟨env, rfl, hE⟩
    · exact ⟨env, rfl, hE⟩
    rotate_left
    · exact ⟨env, rfl, hE⟩
    · exact ⟨_, rfl, rk_A2.setL (R := rk_tok) (Or.inl ⟨rfl, x, rfl, by show max lo I.1 ≤ _; omega, by show _ ≤ min hi I.2; omega⟩) hE h⟩
end
section
/-! ===== rk: one step ===== -/
/-- a method: its instructions, its locals, what its constants link (index, kind, two numbers), its literals -/
abbrev rk_M : Type := List (Nat × Instr × Nat) × Nat × List (Nat × Nat × Nat × Nat) × List (Nat × Value)
/-- locals, stack, symbols, cells; cells and slots made so far -/
abbrev rk_D : Type := FieldType × Nat × rk_V × List (Nat × rk_V)
abbrev rk_H : Type := (Nat × List rk_V) ⊕ rk_D
abbrev rk_S : Type := List (Nat × rk_V) × List rk_V × List rk_T × List rk_H × Nat × Nat
/-- an end: what it returns, symbols, cells, made so far -/
abbrev rk_X : Type := Option rk_V × List rk_T × List rk_H × Nat × Nat
abbrev rk_R : Type := Option (List (Nat × rk_S))
def rk_look (d : rk_V) : List (Nat × rk_V) → Nat → rk_V
  | [], _ => d
  | q :: r, j => if q.1 = j then q.2 else rk_look d r j
def rk_ld : List (Nat × rk_V) → Nat → Option rk_V
  | [], _ => none
  | q :: r, j => if q.1 = j then some q.2 else rk_ld r j
def rk_st1 (env : List rk_T) (lo : List (Nat × rk_V)) (i : Nat) (a : rk_V) : List (Nat × rk_V) := (i, a) :: lo.filter (fun q => !(q.1 == i) && !(q.1 + 1 == i && rk_cat env q.2 == 2))
def rk_st2 (env : List rk_T) (lo : List (Nat × rk_V)) (i : Nat) (a : rk_V) : List (Nat × rk_V) := (i, a) :: lo.filter (fun q => !(q.1 == i) && (!(q.1 == i + 1) && !(q.1 + 1 == i && rk_cat env q.2 == 2)))
def rk_full : Int × Int := (-2147483648, 2147483647)
def rk_iadd (I J : Int × Int) : Int × Int := if -2147483648 ≤ I.1 + J.1 ∧ I.2 + J.2 ≤ 2147483647 then (I.1 + J.1, I.2 + J.2) else rk_full
def rk_isub (I J : Int × Int) : Int × Int := if -2147483648 ≤ I.1 - J.2 ∧ I.2 - J.1 ≤ 2147483647 then (I.1 - J.2, I.2 - J.1) else rk_full
def rk_iand (I J : Int × Int) : Int × Int := if 0 ≤ J.1 then (0, J.2) else if 0 ≤ I.1 then (0, I.2) else rk_full
/-- two ints, an int -/
def rk_bin (f : Int32 → Int32 → Int32) (g : Int × Int → Int × Int → Int × Int) (env : List rk_T) (a b : rk_V) : Option (rk_V × List rk_T) := match a, b with
  | .inl (.int x), .inl (.int y) => some (.inl (.int (f x y)), env)
  | a, b => match rk_iv env a, rk_iv env b with
    | some I, some J => some (rk_fi env (g I J))
    | _, _ => none
def rk_un (f : Int32 → Int32) (I : Int × Int) (env : List rk_T) (a : rk_V) : Option (rk_V × List rk_T) := match a with
  | .inl (.int x) => some (.inl (.int (f x)), env)
  | a => match rk_iv env a with
    | some _ => some (rk_fi env I)
    | none => none
def rk_lbin (f : Int64 → Int64 → Int64) (env : List rk_T) (a b : rk_V) : Option (rk_V × List rk_T) := match a, b with
  | .inl (.long x), .inl (.long y) => some (.inl (.long (f x y)), env)
  | a, b => if rk_isL env a && rk_isL env b then some (rk_fl env) else none
def rk_lsh (f : Int64 → Int32 → Int64) (env : List rk_T) (a b : rk_V) : Option (rk_V × List rk_T) := match a, b with
  | .inl (.long x), .inl (.int y) => some (.inl (.long (f x y)), env)
  | a, b => if rk_isL env a && (rk_iv env b).isSome then some (rk_fl env) else none
def rk_op2 (r : Option (rk_V × List rk_T)) (pc : Nat) (lo : List (Nat × rk_V)) (sk : List rk_V) (hp : List rk_H) (nc ns : Nat) : rk_R := match r with
  | some q => some [(pc, (lo, q.1 :: sk, q.2, hp, nc, ns))]
  | none => none
/-- where a comparison holds, and where it doesn't: the bounds of both, narrowed -/
def rk_cond (c : ClassFile.Cond) (env : List rk_T) (a b : rk_V) (I J : Int × Int) : Option (List rk_T) := match c with
  | .lt => (rk_cut env a (-2147483648) (J.2 - 1)).bind (fun e => rk_cut e b (I.1 + 1) 2147483647)
  | .ge => (rk_cut env a J.1 2147483647).bind (fun e => rk_cut e b (-2147483648) I.2)
  | .gt => (rk_cut env a (J.1 + 1) 2147483647).bind (fun e => rk_cut e b (-2147483648) (I.2 - 1))
  | .le => (rk_cut env a (-2147483648) J.2).bind (fun e => rk_cut e b I.1 2147483647)
  | .eq => (rk_cut env a J.1 J.2).bind (fun e => rk_cut e b I.1 I.2)
  | .ne => if I.1 = I.2 ∧ J.1 = J.2 ∧ I.1 = J.1 then none else if J.1 = J.2 ∧ J.1 = I.1 then rk_cut env a (I.1 + 1) 2147483647 else if J.1 = J.2 ∧ J.1 = I.2 then rk_cut env a (-2147483648) (I.2 - 1) else if I.1 = I.2 ∧ I.1 = J.1 then rk_cut env b (J.1 + 1) 2147483647 else if I.1 = I.2 ∧ I.1 = J.2 then rk_cut env b (-2147483648) (J.2 - 1) else some env
def rk_not : ClassFile.Cond → ClassFile.Cond
  | .eq => .ne | .ne => .eq | .lt => .ge | .ge => .lt | .gt => .le | .le => .gt
def rk_opt (r : Option (List rk_T)) (pc : Nat) (lo : List (Nat × rk_V)) (sk : List rk_V) (hp : List rk_H) (nc ns : Nat) : List (Nat × rk_S) := match r with
  | some e => [(pc, (lo, sk, e, hp, nc, ns))]
  | none => []
def rk_if (c : ClassFile.Cond) (off : Int) (pc : Nat) (a b : rk_V) (lo : List (Nat × rk_V)) (sk : List rk_V) (env : List rk_T) (hp : List rk_H) (nc ns : Nat) : rk_R := match rk_iv env a, rk_iv env b with
  | some I, some J => if 0 ≤ (pc : Int) + off then some (rk_opt (rk_cond c env a b I J) ((pc : Int) + off).toNat lo sk hp nc ns ++ rk_opt (rk_cond (rk_not c) env a b I J) (pc + 3) lo sk hp nc ns) else none
  | _, _ => none
/-- an int that is loaded: a symbol of one value is its literal -/
def rk_norm (env : List rk_T) (a : rk_V) : rk_V := match rk_iv env a with
  | some I => if I.1 = I.2 then .inl (.int (Int32.ofInt I.1)) else a
  | none => a
def rk_ldi (lo : List (Nat × rk_V)) (i : Nat) (pc : Nat) (sk : List rk_V) (env : List rk_T) (hp : List rk_H) (nc ns : Nat) : rk_R := match rk_ld lo i with
  | some a => if (rk_iv env a).isSome then some [(pc, (lo, rk_norm env a :: sk, env, hp, nc, ns))] else none
  | none => none
def rk_ldl (lo : List (Nat × rk_V)) (i : Nat) (pc : Nat) (sk : List rk_V) (env : List rk_T) (hp : List rk_H) (nc ns : Nat) : rk_R := match rk_ld lo i with
  | some a => if rk_isL env a then some [(pc, (lo, a :: sk, env, hp, nc, ns))] else none
  | none => none
def rk_lda (lo : List (Nat × rk_V)) (i : Nat) (pc : Nat) (sk : List rk_V) (env : List rk_T) (hp : List rk_H) (nc ns : Nat) : rk_R := match rk_ld lo i with
  | some (.inr (.inl j)) => some [(pc, (lo, .inr (.inl j) :: sk, env, hp, nc, ns))]
  | _ => none
def rk_sti (nL i pc : Nat) (lo : List (Nat × rk_V)) (sk : List rk_V) (env : List rk_T) (hp : List rk_H) (nc ns : Nat) : rk_R := match sk with
  | a :: sk => if (rk_iv env a).isSome ∧ i < nL then some [(pc, (rk_st1 env lo i a, sk, env, hp, nc, ns))] else none
  | _ => none
def rk_stl (nL i pc : Nat) (lo : List (Nat × rk_V)) (sk : List rk_V) (env : List rk_T) (hp : List rk_H) (nc ns : Nat) : rk_R := match sk with
  | a :: sk => if rk_isL env a = true ∧ i + 1 < nL then some [(pc, (rk_st2 env lo i a, sk, env, hp, nc, ns))] else none
  | _ => none
def rk_sta (nL i pc : Nat) (lo : List (Nat × rk_V)) (sk : List rk_V) (env : List rk_T) (hp : List rk_H) (nc ns : Nat) : rk_R := match sk with
  | .inr (.inl j) :: sk => if i < nL then some [(pc, (rk_st1 env lo i (.inr (.inl j)), sk, env, hp, nc, ns))] else none
  | _ => none
/-- the steps that look at no cell -/
def rk_pure (nL : Nat) (pc : Nat) (ins : Instr) (st : rk_S) : rk_R :=
  let lo := st.1; let sk := st.2.1; let env := st.2.2.1; let hp := st.2.2.2.1; let nc := st.2.2.2.2.1; let ns := st.2.2.2.2.2
  match ins with
  | .iconst n => some [(pc + 1, (lo, .inl (.int (Int32.ofInt n)) :: sk, env, hp, nc, ns))]
  | .bipush n => some [(pc + 2, (lo, .inl (.int (Int8.ofInt n).toInt32) :: sk, env, hp, nc, ns))]
  | .sipush n => some [(pc + 3, (lo, .inl (.int (Int16.ofInt n).toInt32) :: sk, env, hp, nc, ns))]
  | .lconst n => some [(pc + 1, (lo, .inl (.long (Int64.ofNat (n : Nat))) :: sk, env, hp, nc, ns))]
  | .aconst_null => some [(pc + 1, (lo, .inl .null :: sk, env, hp, nc, ns))]
  | .iload_n k => rk_ldi lo k (pc + 1) sk env hp nc ns
  | .iload i => rk_ldi lo i (pc + 2) sk env hp nc ns
  | .lload_n k => rk_ldl lo k (pc + 1) sk env hp nc ns
  | .lload i => rk_ldl lo i (pc + 2) sk env hp nc ns
  | .aload_n k => rk_lda lo k (pc + 1) sk env hp nc ns
  | .aload i => rk_lda lo i (pc + 2) sk env hp nc ns
  | .istore_n k => rk_sti nL k (pc + 1) lo sk env hp nc ns
  | .istore i => rk_sti nL i (pc + 2) lo sk env hp nc ns
  | .lstore_n k => rk_stl nL k (pc + 1) lo sk env hp nc ns
  | .lstore i => rk_stl nL i (pc + 2) lo sk env hp nc ns
  | .astore_n k => rk_sta nL k (pc + 1) lo sk env hp nc ns
  | .astore i => rk_sta nL i (pc + 2) lo sk env hp nc ns
  | .iinc i n => match rk_ld lo i with
    | some a => if i < nL then (match rk_bin (fun x y => x + y) rk_iadd env a (.inl (.int (Int32.ofInt n))) with
      | some q => some [(pc + 3, (rk_st1 q.2 lo i q.1, sk, q.2, hp, nc, ns))]
      | none => none) else none
    | none => none
  | .dup => match sk with
    | a :: r => if rk_cat env a = 1 then some [(pc + 1, (lo, a :: a :: r, env, hp, nc, ns))] else none
    | _ => none
  | .dup2 => match sk with
    | a :: b :: r => if rk_cat env a = 1 ∧ rk_cat env b = 1 then some [(pc + 1, (lo, a :: b :: a :: b :: r, env, hp, nc, ns))] else if rk_cat env a = 2 then some [(pc + 1, (lo, a :: a :: b :: r, env, hp, nc, ns))] else none
    | _ => none
  | .pop => match sk with
    | a :: r => if rk_cat env a = 1 then some [(pc + 1, (lo, r, env, hp, nc, ns))] else none
    | _ => none
  | .pop2 => match sk with
    | a :: r => if rk_cat env a = 2 then some [(pc + 1, (lo, r, env, hp, nc, ns))] else none
    | _ => none
  | .iadd => match sk with
    | b :: a :: r => rk_op2 (rk_bin (fun x y => x + y) rk_iadd env a b) (pc + 1) lo r hp nc ns
    | _ => none
  | .isub => match sk with
    | b :: a :: r => rk_op2 (rk_bin (fun x y => x - y) rk_isub env a b) (pc + 1) lo r hp nc ns
    | _ => none
  | .imul => match sk with
    | b :: a :: r => rk_op2 (rk_bin (fun x y => x * y) (fun _ _ => rk_full) env a b) (pc + 1) lo r hp nc ns
    | _ => none
  | .iand => match sk with
    | b :: a :: r => rk_op2 (rk_bin (fun x y => x &&& y) rk_iand env a b) (pc + 1) lo r hp nc ns
    | _ => none
  | .ior => match sk with
    | b :: a :: r => rk_op2 (rk_bin (fun x y => x ||| y) (fun _ _ => rk_full) env a b) (pc + 1) lo r hp nc ns
    | _ => none
  | .ixor => match sk with
    | b :: a :: r => rk_op2 (rk_bin (fun x y => x ^^^ y) (fun _ _ => rk_full) env a b) (pc + 1) lo r hp nc ns
    | _ => none
  | .ifCond c off => match sk with
    | a :: r => rk_if c off pc a (.inl (.int 0)) lo r env hp nc ns
    | _ => none
  | .if_icmp c off => match sk with
    | b :: a :: r => rk_if c off pc a b lo r env hp nc ns
    | _ => none
  | .goto off => if 0 ≤ (pc : Int) + off then some [(((pc : Int) + off).toNat, st)] else none
  | _ => none
/-- a switch: the places one behind the other, from a value on -/
def rk_sw (a : rk_V) (pc : Nat) (lo : List (Nat × rk_V)) (sk : List rk_V) (env : List rk_T) (hp : List rk_H) (nc ns : Nat) : Int → List Int → Option (List (Nat × rk_S))
  | _, [] => some []
  | v, o :: r => if 0 ≤ (pc : Int) + o then (rk_sw a pc lo sk env hp nc ns (v + 1) r).map (fun l => rk_opt (rk_cut env a v v) ((pc : Int) + o).toNat lo sk hp nc ns ++ l) else none
/-- a divisor that is not 0 -/
def rk_nz (env : List rk_T) (b : rk_V) : Bool := match rk_iv env b with
  | some J => decide (0 < J.1) || decide (J.2 < 0)
  | none => false
def rk_lnz : rk_V → Bool
  | .inl (.long y) => decide (¬ y = 0)
  | _ => false
def rk_irem (I J : Int × Int) : Int × Int := if 0 ≤ I.1 ∧ 0 < J.1 then (0, J.2 - 1) else rk_full
/-- the steps that look at no cell, more -/
def rk_pure2 (pc : Nat) (ins : Instr) (st : rk_S) : rk_R :=
  let lo := st.1; let sk := st.2.1; let env := st.2.2.1; let hp := st.2.2.2.1; let nc := st.2.2.2.2.1; let ns := st.2.2.2.2.2
  match ins with
  | .ishl => match sk with
    | b :: a :: r => rk_op2 (rk_bin (fun x y => x <<< (y &&& 31)) (fun _ _ => rk_full) env a b) (pc + 1) lo r hp nc ns
    | _ => none
  | .ishr => match sk with
    | b :: a :: r => rk_op2 (rk_bin (fun x y => x >>> (y &&& 31)) (fun _ _ => rk_full) env a b) (pc + 1) lo r hp nc ns
    | _ => none
  | .iushr => match sk with
    | b :: a :: r => rk_op2 (rk_bin (fun x y => (x.toUInt32 >>> (y.toUInt32 &&& Int32.toUInt32 31)).toInt32) (fun _ _ => rk_full) env a b) (pc + 1) lo r hp nc ns
    | _ => none
  | .idiv => match sk with
    | b :: a :: r => if rk_nz env b then rk_op2 (rk_bin (fun x y => x / y) (fun _ _ => rk_full) env a b) (pc + 1) lo r hp nc ns else none
    | _ => none
  | .irem => match sk with
    | b :: a :: r => if rk_nz env b then rk_op2 (rk_bin (fun x y => x - x / y * y) rk_irem env a b) (pc + 1) lo r hp nc ns else none
    | _ => none
  | .ineg => match sk with
    | a :: r => rk_op2 (rk_un (fun x => -x) rk_full env a) (pc + 1) lo r hp nc ns
    | _ => none
  | .i2b => match sk with
    | a :: r => rk_op2 (rk_un (fun x => x.toInt8.toInt32) (-128, 127) env a) (pc + 1) lo r hp nc ns
    | _ => none
  | .i2s => match sk with
    | a :: r => rk_op2 (rk_un (fun x => x.toInt16.toInt32) (-32768, 32767) env a) (pc + 1) lo r hp nc ns
    | _ => none
  | .i2l => match sk with
    | .inl (.int x) :: r => some [(pc + 1, (lo, .inl (.long x.toInt64) :: r, env, hp, nc, ns))]
    | .inr (.inr (.inl k)) :: r => if (rk_iv env (.inr (.inr (.inl k)))).isSome then some [(pc + 1, (lo, .inr (.inr (.inr k)) :: r, env, hp, nc, ns))] else none
    | _ => none
  | .l2i => match sk with
    | .inl (.long x) :: r => some [(pc + 1, (lo, .inl (.int x.toInt32) :: r, env, hp, nc, ns))]
    | .inr (.inr (.inr k)) :: r => some [(pc + 1, (lo, .inr (.inr (.inl k)) :: r, env, hp, nc, ns))]
    | a :: r => if rk_isL env a then rk_op2 (some (rk_fi env rk_full)) (pc + 1) lo r hp nc ns else none
    | _ => none
  | .ladd => match sk with
    | b :: a :: r => rk_op2 (rk_lbin (fun x y => x + y) env a b) (pc + 1) lo r hp nc ns
    | _ => none
  | .lsub => match sk with
    | b :: a :: r => rk_op2 (rk_lbin (fun x y => x - y) env a b) (pc + 1) lo r hp nc ns
    | _ => none
  | .lmul => match sk with
    | b :: a :: r => rk_op2 (rk_lbin (fun x y => x * y) env a b) (pc + 1) lo r hp nc ns
    | _ => none
  | .land => match sk with
    | b :: a :: r => rk_op2 (rk_lbin (fun x y => x &&& y) env a b) (pc + 1) lo r hp nc ns
    | _ => none
  | .lor => match sk with
    | b :: a :: r => rk_op2 (rk_lbin (fun x y => x ||| y) env a b) (pc + 1) lo r hp nc ns
    | _ => none
  | .lxor => match sk with
    | b :: a :: r => rk_op2 (rk_lbin (fun x y => x ^^^ y) env a b) (pc + 1) lo r hp nc ns
    | _ => none
  | .ldiv => match sk with
    | b :: a :: r => if rk_lnz b then rk_op2 (rk_lbin (fun x y => x / y) env a b) (pc + 1) lo r hp nc ns else none
    | _ => none
  | .lrem => match sk with
    | b :: a :: r => if rk_lnz b then rk_op2 (rk_lbin (fun x y => x - x / y * y) env a b) (pc + 1) lo r hp nc ns else none
    | _ => none
  | .lshl => match sk with
    | b :: a :: r => rk_op2 (rk_lsh (fun x y => x <<< (y.toInt64 &&& 63)) env a b) (pc + 1) lo r hp nc ns
    | _ => none
  | .lshr => match sk with
    | b :: a :: r => rk_op2 (rk_lsh (fun x y => x >>> (y.toInt64 &&& 63)) env a b) (pc + 1) lo r hp nc ns
    | _ => none
  | .lushr => match sk with
    | b :: a :: r => rk_op2 (rk_lsh (fun x y => (x.toUInt64 >>> (y.toInt64.toUInt64 &&& Int64.toUInt64 63)).toInt64) env a b) (pc + 1) lo r hp nc ns
    | _ => none
  | .lcmp => match sk with
    | .inl (.long y) :: .inl (.long x) :: r => some [(pc + 1, (lo, .inl (.int (lg_cmp x y)) :: r, env, hp, nc, ns))]
    | .inl (.long y) :: .inr (.inr (.inr k)) :: r => some (rk_opt (rk_cut env (.inr (.inr (.inl k))) (y.toInt + 1) 2147483647) (pc + 1) lo (.inl (.int 1) :: r) hp nc ns ++ (rk_opt (rk_cut env (.inr (.inr (.inl k))) y.toInt y.toInt) (pc + 1) lo (.inl (.int 0) :: r) hp nc ns ++ rk_opt (rk_cut env (.inr (.inr (.inl k))) (-2147483648) (y.toInt - 1)) (pc + 1) lo (.inl (.int (-1)) :: r) hp nc ns))
    | .inr (.inr (.inr k)) :: .inl (.long x) :: r => some (rk_opt (rk_cut env (.inr (.inr (.inl k))) (-2147483648) (x.toInt - 1)) (pc + 1) lo (.inl (.int 1) :: r) hp nc ns ++ (rk_opt (rk_cut env (.inr (.inr (.inl k))) x.toInt x.toInt) (pc + 1) lo (.inl (.int 0) :: r) hp nc ns ++ rk_opt (rk_cut env (.inr (.inr (.inl k))) (x.toInt + 1) 2147483647) (pc + 1) lo (.inl (.int (-1)) :: r) hp nc ns))
    | b :: a :: r => if rk_isL env a && rk_isL env b then rk_op2 (some (rk_fi env (-1, 1))) (pc + 1) lo r hp nc ns else none
    | _ => none
  | .tableswitch dflt low high offs => match sk with
    | a :: r => match rk_iv env a with
      | some _ => if offs.toList.length = (high - low + 1).toNat ∧ 0 ≤ (pc : Int) + dflt then (rk_sw a pc lo r env hp nc ns low offs.toList).map (fun l => l ++ (rk_opt (rk_cut env a (-2147483648) (low - 1)) ((pc : Int) + dflt).toNat lo r hp nc ns ++ rk_opt (rk_cut env a (high + 1) 2147483647) ((pc : Int) + dflt).toNat lo r hp nc ns)) else none
      | none => none
    | _ => none
  | _ => none
end
section
/-! ===== rk: what a state stands for; the steps that look at no cell are sound ===== -/
def rk_arr (vals : List Value) (ads : List Nat) (cA : ClassId) (q : rk_D) (e : va_E) : Prop := match q.1 with
  | .int => ∃ f : Nat → Int32, e = .inl (cA, q.2.1, .inl f) ∧ ∀ j, rk_g vals ads (rk_look q.2.2.1 q.2.2.2 j) (.int (f j))
  | .byte => ∃ f : Nat → Int32, e = .inl (cA, q.2.1, .inl f) ∧ ∀ j, rk_g vals ads (rk_look q.2.2.1 q.2.2.2 j) (.int (f j))
  | .long => ∃ f : Nat → Int64, e = .inl (cA, q.2.1, .inr (.inl f)) ∧ ∀ j, rk_g vals ads (rk_look q.2.2.1 q.2.2.2 j) (.long (f j))
  | .object _ => ∃ f : Nat → Option Nat, e = .inl (cA, q.2.1, .inr (.inr (.inr (.inr f)))) ∧ ∀ j, rk_g vals ads (rk_look q.2.2.1 q.2.2.2 j) (va_rf (f j))
  | .array _ => ∃ f : Nat → Option Nat, e = .inl (cA, q.2.1, .inr (.inr (.inr (.inr f)))) ∧ ∀ j, rk_g vals ads (rk_look q.2.2.1 q.2.2.2 j) (va_rf (f j))
  | _ => False
def rk_c (U : State) (vals : List Value) (ads : List Nat) (c : rk_H) (e : va_E) : Prop := match c with
  | .inl o => ∃ vs, e = .inr (o.1, vs) ∧ rk_A2 (rk_g vals ads) o.2 vs
  | .inr q => ∃ cA, ArrOfT U cA q.1 ∧ va_RA U cA q.1 ∧ rk_arr vals ads cA q e
theorem rk_arr.grow {vals vals' : List Value} {ads ads' : List Nat} {cA : ClassId} {q : rk_D} {e : va_E} (h : rk_arr vals ads cA q e) (hv : ∃ l, vals' = vals ++ l) (ha : ∃ l, ads' = ads ++ l) : rk_arr vals' ads' cA q e := by
  unfold rk_arr at h ⊢
  split at h
  all_goals first
    | exact h.elim
    | (obtain ⟨f, e1, h1⟩ := h
       exact ⟨f, e1, fun j => (h1 j).grow hv ha⟩)
theorem rk_c.grow {U : State} {vals vals' : List Value} {ads ads' : List Nat} {c : rk_H} {e : va_E} (h : rk_c U vals ads c e) (hv : ∃ l, vals' = vals ++ l) (ha : ∃ l, ads' = ads ++ l) : rk_c U vals' ads' c e := by
  rcases c with o | q
  · obtain ⟨vs, e1, h1⟩ := h
    exact ⟨vs, e1, h1.mono (fun _ _ h => h.grow hv ha)⟩
  · obtain ⟨cA, h1, h2, h3⟩ := h
    exact ⟨cA, h1, h2, h3.grow hv ha⟩
def rk_G (s : State) (D : va_G) (cl : List vw_C) (Ad : Nat → Prop) (vals0 : List Value) (ads0 : List Nat) (vals : List Value) (ws : va_W) (H : Heap) (locs : List Loc) (env : List rk_T) (hp : List rk_H) : Prop :=
  rk_E env vals ∧ rk_A2 (fun c q => rk_c s vals (ws.map Prod.fst) c q.2) hp ws ∧ va_P D cl ws H ∧ va_D Ad ws ∧ va_S Ad s.heap H locs ∧ (∃ l, vals = vals0 ++ l) ∧ (∃ l, ws.map Prod.fst = ads0 ++ l)
theorem rk_G.env {s : State} {D : va_G} {cl : List vw_C} {Ad : Nat → Prop} {vals0 : List Value} {ads0 : List Nat} {vals : List Value} {ws : va_W} {H : Heap} {locs : List Loc} {env env' : List rk_T} {hp : List rk_H} (h : rk_G s D cl Ad vals0 ads0 vals ws H locs env hp) {k : List Value} (hE : rk_E env' (vals ++ k)) : rk_G s D cl Ad vals0 ads0 (vals ++ k) ws H locs env' hp := by
  obtain ⟨-, h2, h3, h4, h5, ⟨k0, h6⟩, h7⟩ := h
  exact ⟨hE, h2.mono (fun _ _ h => h.grow ⟨k, rfl⟩ ⟨[], by simp⟩), h3, h4, h5, ⟨k0 ++ k, by rw [h6, List.append_assoc]⟩, h7⟩
theorem rk_G.env0 {s : State} {D : va_G} {cl : List vw_C} {Ad : Nat → Prop} {vals0 : List Value} {ads0 : List Nat} {vals : List Value} {ws : va_W} {H : Heap} {locs : List Loc} {env env' : List rk_T} {hp : List rk_H} (h : rk_G s D cl Ad vals0 ads0 vals ws H locs env hp) (hE : rk_E env' vals) : rk_G s D cl Ad vals0 ads0 vals ws H locs env' hp := ⟨hE, h.2⟩
abbrev rk_K : Type := Nat → Array Slot → List Value → Heap → List Loc → Nat → Nat → Prop
/-- the locals -/
abbrev rk_Lo (vals : List Value) (ads : List Nat) (lo : List (Nat × rk_V)) (lc : List (Nat × Value)) : Prop := rk_A2 (fun (q : Nat × rk_V) (r : Nat × Value) => q.1 = r.1 ∧ rk_g vals ads q.2 r.2) lo lc
theorem rk_Lo.grow {vals : List Value} {ads : List Nat} {lo : List (Nat × rk_V)} {lc : List (Nat × Value)} (h : rk_Lo vals ads lo lc) (k : List Value) : rk_Lo (vals ++ k) ads lo lc := rk_A2.mono (fun _ _ q => ⟨q.1, q.2.grow ⟨k, rfl⟩ ⟨[], by simp⟩⟩) h
theorem rk_skG {vals : List Value} {ads : List Nat} {sk : List rk_V} {stk : List Value} (h : rk_A2 (rk_g vals ads) sk stk) (k : List Value) : rk_A2 (rk_g (vals ++ k) ads) sk stk := rk_A2.mono (fun _ _ q => q.grow ⟨k, rfl⟩ ⟨[], by simp⟩) h
def rk_W (K : rk_K) (s : State) (D : va_G) (cl : List vw_C) (Ad : Nat → Prop) (nL : Nat) (vals0 : List Value) (ads0 : List Nat) (pc : Nat) (st : rk_S) : Prop :=
  ∀ (vals : List Value) (ws : va_W) (H : Heap) (locs : List Loc) (ls : Array Slot) (stk : List Value) (lc : List (Nat × Value)), rk_G s D cl Ad vals0 ads0 vals ws H locs st.2.2.1 st.2.2.2.1 → lv_has ls nL lc → rk_Lo vals (ws.map Prod.fst) st.1 lc → rk_A2 (rk_g vals (ws.map Prod.fst)) st.2.1 stk → K pc ls stk H locs st.2.2.2.2.1 st.2.2.2.2.2
abbrev rk_KW (p : Program) (l : Launch) (e : Env) (R : Room) (s : State) (m : MethodId) (args : Array Value) (below : List Frame) (meth : Method) (c : Code) (Q : State → Prop) : rk_K := fun pc ls stk H locs n k => W p l e R s m args below meth c H locs n k Q (F0 m pc ls stk)
theorem rk_ld_ok {vals : List Value} {ads : List Nat} {i : Nat} {a : rk_V} : ∀ {lo : List (Nat × rk_V)} {lc : List (Nat × Value)}, rk_Lo vals ads lo lc → rk_ld lo i = some a → ∃ v, (i, v) ∈ lc ∧ rk_g vals ads a v := by
  intro lo
  induction lo with
  | nil => intro lc _ h; simp [rk_ld] at h
  | cons q lo ih =>
    intro lc hL h
    obtain ⟨r, k, rfl, h1, h2⟩ := hL.cons
    unfold rk_ld at h
    split at h
    · next e =>
      cases h
      exact ⟨r.2, by rw [← e, h1.1]; exact List.mem_cons_self, h1.2⟩
    · obtain ⟨v, hv, hg⟩ := ih h2 h
      exact ⟨v, List.mem_cons_of_mem _ hv, hg⟩
theorem rk_st1_ok {vals : List Value} {ads : List Nat} {env : List rk_T} {lo : List (Nat × rk_V)} {lc : List (Nat × Value)} {i : Nat} {a : rk_V} {v : Value} (hE : rk_E env vals) (hL : rk_Lo vals ads lo lc) (hg : rk_g vals ads a v) : rk_Lo vals ads (rk_st1 env lo i a) ((i, v) :: lc.filter (fun q => !(q.1 == i) && !(q.1 + 1 == i && q.2.category == 2))) :=
  ⟨⟨rfl, hg⟩, rk_A2.filter (fun q r h => by rw [h.1, rk_cat_ok hE h.2]) hL⟩
theorem rk_st2_ok {vals : List Value} {ads : List Nat} {env : List rk_T} {lo : List (Nat × rk_V)} {lc : List (Nat × Value)} {i : Nat} {a : rk_V} {v : Value} (hE : rk_E env vals) (hL : rk_Lo vals ads lo lc) (hg : rk_g vals ads a v) : rk_Lo vals ads (rk_st2 env lo i a) ((i, v) :: lc.filter (fun q => !(q.1 == i) && (!(q.1 == i + 1) && !(q.1 + 1 == i && q.2.category == 2)))) :=
  ⟨⟨rfl, hg⟩, rk_A2.filter (fun q r h => by rw [h.1, rk_cat_ok hE h.2]) hL⟩
theorem rk_norm_ok {env : List rk_T} {vals : List Value} {ads : List Nat} {a : rk_V} {v : Value} (hE : rk_E env vals) (h : rk_g vals ads a v) : rk_g vals ads (rk_norm env a) v := by
  unfold rk_norm
  cases hi : rk_iv env a with
  | none => exact h
  | some I =>
    obtain ⟨x, rfl, h1, h2⟩ := rk_iv_ok hE h hi
    dsimp only
    split
    · next e =>
      show Value.int x = Value.int (Int32.ofInt I.1)
      have : I.1 = x.toInt := by omega
      rw [this, Int32.ofInt_toInt]
    · exact h
/-- bounds that an operation keeps -/
def rk_sound2 (f : Int32 → Int32 → Int32) (g : Int × Int → Int × Int → Int × Int) : Prop := ∀ (x y : Int32) (I J : Int × Int), I.1 ≤ x.toInt → x.toInt ≤ I.2 → J.1 ≤ y.toInt → y.toInt ≤ J.2 → (g I J).1 ≤ (f x y).toInt ∧ (f x y).toInt ≤ (g I J).2
theorem rk_full_ok (x : Int32) : rk_full.1 ≤ x.toInt ∧ x.toInt ≤ rk_full.2 := ⟨Int32.le_toInt x, Int32.toInt_le x⟩
theorem rk_s_full (f : Int32 → Int32 → Int32) : rk_sound2 f (fun _ _ => rk_full) := fun x y _ _ _ _ _ _ => rk_full_ok (f x y)
theorem rk_s_add : rk_sound2 (fun x y => x + y) rk_iadd := by
  intro x y I J h1 h2 h3 h4
  unfold rk_iadd
  split
  · next h =>
    have e : (x + y).toInt = x.toInt + y.toInt := by
      rw [Int32.toInt_add]
      apply Int.bmod_eq_of_le <;> omega
    rw [e]
    constructor <;> dsimp only <;> omega
  · exact rk_full_ok _
theorem rk_s_sub : rk_sound2 (fun x y => x - y) rk_isub := by
  intro x y I J h1 h2 h3 h4
  unfold rk_isub
  split
  · next h =>
    have e : (x - y).toInt = x.toInt - y.toInt := by
      rw [Int32.toInt_sub]
      apply Int.bmod_eq_of_le <;> omega
    rw [e]
    constructor <;> dsimp only <;> omega
  · exact rk_full_ok _
theorem rk_nn {x : Int32} (h : 0 ≤ x.toInt) : x.toInt = (x.toBitVec.toNat : Int) ∧ x.toBitVec.toNat < 2147483648 := by
  have e : x.toInt = x.toBitVec.toInt := rfl
  rw [e] at h ⊢
  rw [BitVec.toInt_eq_toNat_cond] at h ⊢
  have := x.toBitVec.isLt
  split at h <;> constructor <;> first | (split <;> omega) | omega
theorem rk_of_small {x : Int32} (h : x.toBitVec.toNat < 2147483648) : x.toInt = (x.toBitVec.toNat : Int) := by
  have e : x.toInt = x.toBitVec.toInt := rfl
  rw [e, BitVec.toInt_eq_toNat_cond]
  split <;> omega
theorem rk_s_and : rk_sound2 (fun x y => x &&& y) rk_iand := by
  intro x y I J h1 h2 h3 h4
  have e : (x &&& y).toBitVec.toNat = x.toBitVec.toNat &&& y.toBitVec.toNat := by
    rw [Int32.toBitVec_and, BitVec.toNat_and]
  have l1 : x.toBitVec.toNat &&& y.toBitVec.toNat ≤ x.toBitVec.toNat := Nat.and_le_left
  have l2 : x.toBitVec.toNat &&& y.toBitVec.toNat ≤ y.toBitVec.toNat := Nat.and_le_right
  unfold rk_iand
  split
  · next h =>
    obtain ⟨a1, a2⟩ := rk_nn (x := y) (by omega)
    have := rk_of_small (x := x &&& y) (by omega)
    dsimp only
    omega
  · split
    · next h =>
      obtain ⟨a1, a2⟩ := rk_nn (x := x) (by omega)
      have := rk_of_small (x := x &&& y) (by omega)
      dsimp only
      omega
    · exact rk_full_ok _
theorem rk_bin_ok {f : Int32 → Int32 → Int32} {g : Int × Int → Int × Int → Int × Int} (hs : rk_sound2 f g) {env : List rk_T} {vals : List Value} {ads : List Nat} {a b : rk_V} {va vb : Value} {q : rk_V × List rk_T} (hE : rk_E env vals) (ha : rk_g vals ads a va) (hb : rk_g vals ads b vb) (h : rk_bin f g env a b = some q) :
    ∃ (x y : Int32) (k : List Value), va = .int x ∧ vb = .int y ∧ rk_E q.2 (vals ++ k) ∧ rk_g (vals ++ k) ads q.1 (.int (f x y)) := by
  have key : ∀ I J, rk_iv env a = some I → rk_iv env b = some J → rk_fi env (g I J) = q → ∃ (x y : Int32) (k : List Value), va = .int x ∧ vb = .int y ∧ rk_E q.2 (vals ++ k) ∧ rk_g (vals ++ k) ads q.1 (.int (f x y)) := by
    intro I J hi hj hq
    obtain ⟨x, rfl, h1, h2⟩ := rk_iv_ok hE ha hi
    obtain ⟨y, rfl, h3, h4⟩ := rk_iv_ok hE hb hj
    obtain ⟨h5, h6⟩ := hs x y I J h1 h2 h3 h4
    obtain ⟨k, hk, hg⟩ := rk_fi_ok ads (I := g I J) hE h5 h6
    rw [hq] at hk hg
    exact ⟨x, y, k, rfl, rfl, hk, hg⟩
  unfold rk_bin at h
  split at h
  · cases h
    have ha : va = _ := ha
    have hb : vb = _ := hb
    subst ha; subst hb
    exact ⟨_, _, [], rfl, rfl, by simpa using hE, rfl⟩
  · split at h
    · next I J hi hj => exact key I J hi hj (Option.some.inj h)
    · cases h
theorem rk_un_ok {f : Int32 → Int32} {I0 : Int × Int} (hs : ∀ x, I0.1 ≤ (f x).toInt ∧ (f x).toInt ≤ I0.2) {env : List rk_T} {vals : List Value} {ads : List Nat} {a : rk_V} {va : Value} {q : rk_V × List rk_T} (hE : rk_E env vals) (ha : rk_g vals ads a va) (h : rk_un f I0 env a = some q) :
    ∃ (x : Int32) (k : List Value), va = .int x ∧ rk_E q.2 (vals ++ k) ∧ rk_g (vals ++ k) ads q.1 (.int (f x)) := by
  unfold rk_un at h
  split at h
  · cases h
    have ha : va = _ := ha
    subst ha
    exact ⟨_, [], rfl, by simpa using hE, rfl⟩
  · split at h
    · next I hi =>
      cases h
      obtain ⟨x, rfl, h1, h2⟩ := rk_iv_ok hE ha hi
      obtain ⟨k, hk, hg⟩ := rk_fi_ok ads (I := I0) hE (hs x).1 (hs x).2
      exact ⟨x, k, rfl, hk, hg⟩
    · cases h
theorem rk_lbin_ok {f : Int64 → Int64 → Int64} {env : List rk_T} {vals : List Value} {ads : List Nat} {a b : rk_V} {va vb : Value} {q : rk_V × List rk_T} (hE : rk_E env vals) (ha : rk_g vals ads a va) (hb : rk_g vals ads b vb) (h : rk_lbin f env a b = some q) :
    ∃ (x y : Int64) (k : List Value), va = .long x ∧ vb = .long y ∧ rk_E q.2 (vals ++ k) ∧ rk_g (vals ++ k) ads q.1 (.long (f x y)) := by
  unfold rk_lbin at h
  split at h
  · cases h
    have ha : va = _ := ha
    have hb : vb = _ := hb
    subst ha; subst hb
    exact ⟨_, _, [], rfl, rfl, by simpa using hE, rfl⟩
  · split at h
    · next hl =>
      cases h
      rw [Bool.and_eq_true] at hl
      obtain ⟨x, rfl⟩ := rk_isL_ok hE ha hl.1
      obtain ⟨y, rfl⟩ := rk_isL_ok hE hb hl.2
      obtain ⟨k, hk, hg⟩ := rk_fl_ok ads (x := f x y) hE
      exact ⟨x, y, k, rfl, rfl, hk, hg⟩
    · cases h
theorem rk_lsh_ok {f : Int64 → Int32 → Int64} {env : List rk_T} {vals : List Value} {ads : List Nat} {a b : rk_V} {va vb : Value} {q : rk_V × List rk_T} (hE : rk_E env vals) (ha : rk_g vals ads a va) (hb : rk_g vals ads b vb) (h : rk_lsh f env a b = some q) :
    ∃ (x : Int64) (y : Int32) (k : List Value), va = .long x ∧ vb = .int y ∧ rk_E q.2 (vals ++ k) ∧ rk_g (vals ++ k) ads q.1 (.long (f x y)) := by
  unfold rk_lsh at h
  split at h
  · cases h
    have ha : va = _ := ha
    have hb : vb = _ := hb
    subst ha; subst hb
    exact ⟨_, _, [], rfl, rfl, by simpa using hE, rfl⟩
  · split at h
    · next hl =>
      cases h
      rw [Bool.and_eq_true, Option.isSome_iff_exists] at hl
      obtain ⟨hl, J, hj⟩ := hl
      obtain ⟨x, rfl⟩ := rk_isL_ok hE ha hl
      obtain ⟨y, rfl, -, -⟩ := rk_iv_ok hE hb hj
      obtain ⟨k, hk, hg⟩ := rk_fl_ok ads (x := f x y) hE
      exact ⟨x, y, k, rfl, rfl, hk, hg⟩
    · cases h
end
section
/-! ===== rk: the steps that look at no cell are sound ===== -/
def rk_holds (c : ClassFile.Cond) (x y : Int32) : Prop := match c with
  | .eq => x.toInt = y.toInt
  | .ne => ¬ x.toInt = y.toInt
  | .lt => x.toInt < y.toInt
  | .ge => y.toInt ≤ x.toInt
  | .gt => y.toInt < x.toInt
  | .le => x.toInt ≤ y.toInt
theorem rk_cut2 {env : List rk_T} {vals : List Value} {ads : List Nat} {a b : rk_V} {x y : Int32} {l1 h1 l2 h2 : Int} (hE : rk_E env vals) (ga : rk_g vals ads a (.int x)) (gb : rk_g vals ads b (.int y)) (p1 : l1 ≤ x.toInt) (p2 : x.toInt ≤ h1) (p3 : l2 ≤ y.toInt) (p4 : y.toInt ≤ h2) : ∃ env', (rk_cut env a l1 h1).bind (fun e => rk_cut e b l2 h2) = some env' ∧ rk_E env' vals := by
  obtain ⟨e1, q1, r1⟩ := rk_cut_ok hE ga p1 p2
  obtain ⟨e2, q2, r2⟩ := rk_cut_ok r1 gb p3 p4
  exact ⟨e2, by rw [q1]; exact q2, r2⟩
theorem rk_cond_ok (c : ClassFile.Cond) {env : List rk_T} {vals : List Value} {ads : List Nat} {a b : rk_V} {x y : Int32} {I J : Int × Int} (hE : rk_E env vals) (ga : rk_g vals ads a (.int x)) (gb : rk_g vals ads b (.int y)) (hi : rk_iv env a = some I) (hj : rk_iv env b = some J) (h : rk_holds c x y) : ∃ env', rk_cond c env a b I J = some env' ∧ rk_E env' vals := by
  obtain ⟨x', e1, p1, p2⟩ := rk_iv_ok hE ga hi
  cases e1
  obtain ⟨y', e2, p3, p4⟩ := rk_iv_ok hE gb hj
  cases e2
  obtain ⟨f1, f2⟩ := rk_full_ok x
  obtain ⟨f3, f4⟩ := rk_full_ok y
  dsimp only [rk_full] at f1 f2 f3 f4
  cases c <;> dsimp only [rk_holds] at h <;> dsimp only [rk_cond]
  · exact rk_cut2 hE ga gb (by omega) (by omega) (by omega) (by omega)
  · split
    · omega
    · split
      · exact rk_cut_ok hE ga (by omega) (by omega)
      · split
        · exact rk_cut_ok hE ga (by omega) (by omega)
        · split
          · exact rk_cut_ok hE gb (by omega) (by omega)
          · split
            · exact rk_cut_ok hE gb (by omega) (by omega)
            · exact ⟨env, rfl, hE⟩
  all_goals exact rk_cut2 hE ga gb (by omega) (by omega) (by omega) (by omega)
theorem rk_not_ok {c : ClassFile.Cond} {x y : Int32} (h : ¬ rk_holds c x y) : rk_holds (rk_not c) x y := by
  cases c <;> dsimp only [rk_holds, rk_not] at h ⊢ <;> omega
theorem rk_opt_mem {r : Option (List rk_T)} {e : List rk_T} (h : r = some e) (pc : Nat) (lo : List (Nat × rk_V)) (sk : List rk_V) (hp : List rk_H) (nc ns : Nat) : (pc, (lo, sk, e, hp, nc, ns)) ∈ rk_opt r pc lo sk hp nc ns := by
  rw [h]; exact List.mem_singleton.mpr rfl
section RKP
variable {p : Program} {l : Launch} {e : Env} {R : Room} {s : State} {m : MethodId} {args : Array Value} {below : List Frame} {meth : Method} {c : Code} {Q : State → Prop} {cc : ByteArray} {D : va_G} {cl : List vw_C} {Ad : Nat → Prop} {nL : Nat} {vals0 : List Value} {ads0 : List Nat}
/-- a comparison, by its row -/
theorem rk_if_ok {K : rk_K} {cd : ClassFile.Cond} {off : Int} {pc : Nat} {a b : rk_V} {lo : List (Nat × rk_V)} {sk : List rk_V} {env : List rk_T} {hp : List rk_H} {nc ns : Nat} {res : List (Nat × rk_S)} (h : rk_if cd off pc a b lo sk env hp nc ns = some res) (kk : ∀ q ∈ res, rk_W K s D cl Ad nL vals0 ads0 q.1 q.2)
    {vals : List Value} {ws : va_W} {H : Heap} {locs : List Loc} {ls : Array Slot} {stk : List Value} {lc : List (Nat × Value)} {va vb : Value} (hG : rk_G s D cl Ad vals0 ads0 vals ws H locs env hp) (hl : lv_has ls nL lc) (hL : rk_Lo vals (ws.map Prod.fst) lo lc) (ga : rk_g vals (ws.map Prod.fst) a va) (gb : rk_g vals (ws.map Prod.fst) b vb) (hS : rk_A2 (rk_g vals (ws.map Prod.fst)) sk stk) :
    ∃ (x y : Int32) (tgt : Nat), va = .int x ∧ vb = .int y ∧ (pc : Int) + off = (tgt : Int) ∧ (rk_holds cd x y → K tgt ls stk H locs nc ns) ∧ (¬ rk_holds cd x y → K (pc + 3) ls stk H locs nc ns) := by
  unfold rk_if at h
  split at h
  · next I J hi hj =>
    split at h
    · next hpc =>
      cases h
      obtain ⟨x, rfl, -, -⟩ := rk_iv_ok hG.1 ga hi
      obtain ⟨y, rfl, -, -⟩ := rk_iv_ok hG.1 gb hj
      refine ⟨x, y, ((pc : Int) + off).toNat, rfl, rfl, by omega, fun hh => ?_, fun hh => ?_⟩
      · obtain ⟨e', q1, q2⟩ := rk_cond_ok cd hG.1 ga gb hi hj hh
        exact kk _ (List.mem_append_left _ (rk_opt_mem q1 _ lo sk hp nc ns)) vals ws H locs ls stk lc (hG.env0 q2) hl hL hS
      · obtain ⟨e', q1, q2⟩ := rk_cond_ok (rk_not cd) hG.1 ga gb hi hj (rk_not_ok hh)
        exact kk _ (List.mem_append_right _ (rk_opt_mem q1 _ lo sk hp nc ns)) vals ws H locs ls stk lc (hG.env0 q2) hl hL hS
    · cases h
  · cases h
def rk_len (ins : Instr) (len : Nat) : Bool := match ins with
  | .bipush _ | .iload _ | .lload _ | .aload _ | .istore _ | .lstore _ | .astore _ | .ldc _ | .newarray _ => len == 2
  | .sipush _ | .iinc _ _ | .ifCond _ _ | .if_icmp _ _ | .goto _ | .getfield _ | .putfield _ | .getstatic _ | .new _ | .invokevirtual _ | .invokestatic _ | .invokespecial _ | .ldc_w _ | .ldc2_w _ | .anewarray _ => len == 3
  | .multianewarray _ _ => len == 4
  | .tableswitch _ _ _ _ | .lookupswitch _ _ => true
  | _ => len == 1

set_option maxHeartbeats 4000000 in
theorem rk_pure_ok (hx : p.tables.exec = Jvm.exec) (hb : c.code = cc) {pc : Nat} {ins : Instr} {len : Nat} {st : rk_S} {res : List (Nat × rk_S)} (hdg : decode cc pc = .ok (ins, len)) (hlen : rk_len ins len = true) (h : rk_pure nL pc ins st = some res) (kk : ∀ q ∈ res, rk_W (rk_KW p l e R s m args below meth c Q) s D cl Ad nL vals0 ads0 q.1 q.2) : rk_W (rk_KW p l e R s m args below meth c Q) s D cl Ad nL vals0 ads0 pc st := by
  obtain ⟨lo, sk, env, hp, nc, ns⟩ := st
  intro vals ws H locs ls stk lc hG hl hL hS
  dsimp only at hG hL hS ⊢
  cases ins

  case iconst n =>
    simp [rk_len] at hlen; subst hlen
    simp only [rk_pure, Option.some.injEq] at h; subst h
    refine lv_iconst (v := Int32.ofInt n) hx hb hdg rfl ?_
    exact kk _ (List.mem_singleton.mpr rfl) vals ws H locs ls _ lc hG hl hL ⟨rfl, hS⟩
  case bipush n =>
    simp [rk_len] at hlen; subst hlen
    simp only [rk_pure, Option.some.injEq] at h; subst h
    refine lv_bipush (v := (Int8.ofInt n).toInt32) hx hb hdg rfl ?_
    exact kk _ (List.mem_singleton.mpr rfl) vals ws H locs ls _ lc hG hl hL ⟨rfl, hS⟩
  case sipush n =>
    simp [rk_len] at hlen; subst hlen
    simp only [rk_pure, Option.some.injEq] at h; subst h
    refine lv_sipush (v := (Int16.ofInt n).toInt32) hx hb hdg rfl ?_
    exact kk _ (List.mem_singleton.mpr rfl) vals ws H locs ls _ lc hG hl hL ⟨rfl, hS⟩
  case lconst n =>
    simp [rk_len] at hlen; subst hlen
    simp only [rk_pure, Option.some.injEq] at h; subst h
    refine lv_lconst (v := Int64.ofNat (n : Nat)) hx hb hdg rfl ?_
    exact kk _ (List.mem_singleton.mpr rfl) vals ws H locs ls _ lc hG hl hL ⟨rfl, hS⟩
  case aconst_null =>
    simp [rk_len] at hlen; subst hlen
    simp only [rk_pure, Option.some.injEq] at h; subst h
    refine lv_null hx hb hdg ?_
    exact kk _ (List.mem_singleton.mpr rfl) vals ws H locs ls _ lc hG hl hL ⟨rfl, hS⟩
  case iload_n k =>
    simp [rk_len] at hlen; subst hlen
    simp only [rk_pure, rk_ldi] at h
    split at h
    · next a ha =>
      split at h
      · next hi =>
        cases h
        obtain ⟨v, hv, hg⟩ := rk_ld_ok hL ha
        obtain ⟨I, hI⟩ := Option.isSome_iff_exists.mp hi
        obtain ⟨x, rfl, -, -⟩ := rk_iv_ok hG.1 hg hI
        refine lv_iload_n hx hb hdg rfl (hl.2.2 _ hv) ?_
        exact kk _ (List.mem_singleton.mpr rfl) vals ws H locs ls _ lc hG hl hL ⟨rk_norm_ok hG.1 hg, hS⟩
      · cases h
    · cases h
  case iload k =>
    simp [rk_len] at hlen; subst hlen
    simp only [rk_pure, rk_ldi] at h
    split at h
    · next a ha =>
      split at h
      · next hi =>
        cases h
        obtain ⟨v, hv, hg⟩ := rk_ld_ok hL ha
        obtain ⟨I, hI⟩ := Option.isSome_iff_exists.mp hi
        obtain ⟨x, rfl, -, -⟩ := rk_iv_ok hG.1 hg hI
        refine lv_iload hx hb hdg (hl.2.2 _ hv) ?_
        exact kk _ (List.mem_singleton.mpr rfl) vals ws H locs ls _ lc hG hl hL ⟨rk_norm_ok hG.1 hg, hS⟩
      · cases h
    · cases h
  case lload_n k =>
    simp [rk_len] at hlen; subst hlen
    simp only [rk_pure, rk_ldl] at h
    split at h
    · next a ha =>
      split at h
      · next hi =>
        cases h
        obtain ⟨v, hv, hg⟩ := rk_ld_ok hL ha
        obtain ⟨x, rfl⟩ := rk_isL_ok hG.1 hg hi
        refine lv_lload_n hx hb hdg rfl (hl.2.2 _ hv) ?_
        exact kk _ (List.mem_singleton.mpr rfl) vals ws H locs ls _ lc hG hl hL ⟨hg, hS⟩
      · cases h
    · cases h
  case lload k =>
    simp [rk_len] at hlen; subst hlen
    simp only [rk_pure, rk_ldl] at h
    split at h
    · next a ha =>
      split at h
      · next hi =>
        cases h
        obtain ⟨v, hv, hg⟩ := rk_ld_ok hL ha
        obtain ⟨x, rfl⟩ := rk_isL_ok hG.1 hg hi
        refine lv_lload hx hb hdg (hl.2.2 _ hv) ?_
        exact kk _ (List.mem_singleton.mpr rfl) vals ws H locs ls _ lc hG hl hL ⟨hg, hS⟩
      · cases h
    · cases h
  case aload_n k =>
    simp [rk_len] at hlen; subst hlen
    simp only [rk_pure, rk_lda] at h
    split at h
    · next j ha =>
      cases h
      obtain ⟨v, hv, hg⟩ := rk_ld_ok hL ha
      obtain ⟨x, hj, rfl⟩ := id hg
      refine lv_aload_n hx hb hdg rfl (hl.2.2 _ hv) ?_
      exact kk _ (List.mem_singleton.mpr rfl) vals ws H locs ls _ lc hG hl hL ⟨hg, hS⟩
    · cases h
  case aload k =>
    simp [rk_len] at hlen; subst hlen
    simp only [rk_pure, rk_lda] at h
    split at h
    · next j ha =>
      cases h
      obtain ⟨v, hv, hg⟩ := rk_ld_ok hL ha
      obtain ⟨x, hj, rfl⟩ := id hg
      refine lv_aload hx hb hdg (hl.2.2 _ hv) ?_
      exact kk _ (List.mem_singleton.mpr rfl) vals ws H locs ls _ lc hG hl hL ⟨hg, hS⟩
    · cases h
  case istore_n k =>
    simp [rk_len] at hlen; subst hlen
    simp only [rk_pure, rk_sti] at h
    split at h
    · next a r =>
      split at h
      · next hi =>
        cases h
        obtain ⟨v, k1, rfl, hg, hSn⟩ := hS.cons; clear hS; have hS := hSn; clear hSn
        obtain ⟨I, hI⟩ := Option.isSome_iff_exists.mp hi.1
        obtain ⟨x, rfl, -, -⟩ := rk_iv_ok hG.1 hg hI
        refine lv_istore_n hx hb hdg rfl hl hi.2 rfl (fun ls' hl' => ?_)
        exact kk _ (List.mem_singleton.mpr rfl) vals ws H locs ls' _ _ hG hl' (rk_st1_ok hG.1 hL hg) hS
      · cases h
    · cases h
  case istore k =>
    simp [rk_len] at hlen; subst hlen
    simp only [rk_pure, rk_sti] at h
    split at h
    · next a r =>
      split at h
      · next hi =>
        cases h
        obtain ⟨v, k1, rfl, hg, hSn⟩ := hS.cons; clear hS; have hS := hSn; clear hSn
        obtain ⟨I, hI⟩ := Option.isSome_iff_exists.mp hi.1
        obtain ⟨x, rfl, -, -⟩ := rk_iv_ok hG.1 hg hI
        refine lv_istore hx hb hdg hl hi.2 rfl (fun ls' hl' => ?_)
        exact kk _ (List.mem_singleton.mpr rfl) vals ws H locs ls' _ _ hG hl' (rk_st1_ok hG.1 hL hg) hS
      · cases h
    · cases h
  case lstore_n k =>
    simp [rk_len] at hlen; subst hlen
    simp only [rk_pure, rk_stl] at h
    split at h
    · next a r =>
      split at h
      · next hi =>
        cases h
        obtain ⟨v, k1, rfl, hg, hSn⟩ := hS.cons; clear hS; have hS := hSn; clear hSn
        obtain ⟨x, rfl⟩ := rk_isL_ok hG.1 hg hi.1
        refine lv_lstore_n hx hb hdg rfl hl hi.2 rfl (fun ls' hl' => ?_)
        exact kk _ (List.mem_singleton.mpr rfl) vals ws H locs ls' _ _ hG hl' (rk_st2_ok hG.1 hL hg) hS
      · cases h
    · cases h
  case lstore k =>
    simp [rk_len] at hlen; subst hlen
    simp only [rk_pure, rk_stl] at h
    split at h
    · next a r =>
      split at h
      · next hi =>
        cases h
        obtain ⟨v, k1, rfl, hg, hSn⟩ := hS.cons; clear hS; have hS := hSn; clear hSn
        obtain ⟨x, rfl⟩ := rk_isL_ok hG.1 hg hi.1
        refine lv_lstore hx hb hdg hl hi.2 rfl (fun ls' hl' => ?_)
        exact kk _ (List.mem_singleton.mpr rfl) vals ws H locs ls' _ _ hG hl' (rk_st2_ok hG.1 hL hg) hS
      · cases h
    · cases h
  case astore_n k =>
    simp [rk_len] at hlen; subst hlen
    simp only [rk_pure, rk_sta] at h
    split at h
    · next j r =>
      split at h
      · next hi =>
        cases h
        obtain ⟨v, k1, rfl, hg, hSn⟩ := hS.cons; clear hS; have hS := hSn; clear hSn
        obtain ⟨x, hj, rfl⟩ := id hg
        refine lv_astore_n hx hb hdg rfl hl hi rfl (fun ls' hl' => ?_)
        exact kk _ (List.mem_singleton.mpr rfl) vals ws H locs ls' _ _ hG hl' (rk_st1_ok hG.1 hL hg) hS
      · cases h
    · cases h
  case astore k =>
    simp [rk_len] at hlen; subst hlen
    simp only [rk_pure, rk_sta] at h
    split at h
    · next j r =>
      split at h
      · next hi =>
        cases h
        obtain ⟨v, k1, rfl, hg, hSn⟩ := hS.cons; clear hS; have hS := hSn; clear hSn
        obtain ⟨x, hj, rfl⟩ := id hg
        refine lv_astore hx hb hdg hl hi rfl (fun ls' hl' => ?_)
        exact kk _ (List.mem_singleton.mpr rfl) vals ws H locs ls' _ _ hG hl' (rk_st1_ok hG.1 hL hg) hS
      · cases h
    · cases h
  case iinc i n =>
    simp [rk_len] at hlen; subst hlen
    simp only [rk_pure] at h
    split at h
    · next a ha =>
      split at h
      · next hi =>
        split at h
        · next q hq =>
          cases h
          obtain ⟨v, hv, hg⟩ := rk_ld_ok hL ha
          obtain ⟨x, y, k2, rfl, ey, hE2, hg2⟩ := rk_bin_ok rk_s_add hG.1 hg (show rk_g vals (ws.map Prod.fst) (.inl (.int (Int32.ofInt n))) (.int (Int32.ofInt n)) from rfl) hq
          cases ey
          obtain ⟨kq, hkq⟩ := List.getElem?_of_mem hv
          refine lv_iinc hx hb hdg hl hkq rfl hi rfl (fun ls' hl' => ?_)
          exact kk _ (List.mem_singleton.mpr rfl) (vals ++ k2) ws H locs ls' _ _ (hG.env hE2) hl' (rk_st1_ok hE2 (hL.grow k2) hg2) (rk_skG hS k2)
        · cases h
      · cases h
    · cases h
  case dup =>
    simp [rk_len] at hlen; subst hlen
    simp only [rk_pure] at h
    split at h
    · next a r =>
      split at h
      · next hc =>
        cases h
        obtain ⟨v, k1, rfl, hg, hS1⟩ := hS.cons
        refine lv_dup hx hb hdg (by rw [← rk_cat_ok hG.1 hg]; exact hc) ?_
        exact kk _ (List.mem_singleton.mpr rfl) vals ws H locs ls _ lc hG hl hL ⟨hg, hg, hS1⟩
      · cases h
    · cases h
  case dup2 =>
    simp [rk_len] at hlen; subst hlen
    simp only [rk_pure] at h
    split at h
    · next a b r =>
      obtain ⟨v, k1, rfl, hg, hS1⟩ := hS.cons
      obtain ⟨v2, k2, rfl, hg2, hS2⟩ := hS1.cons
      split at h
      · next hc =>
        cases h
        refine lv_dup2_11 hx hb hdg (by rw [← rk_cat_ok hG.1 hg]; exact hc.1) (by rw [← rk_cat_ok hG.1 hg2]; exact hc.2) ?_
        exact kk _ (List.mem_singleton.mpr rfl) vals ws H locs ls _ lc hG hl hL ⟨hg, hg2, hg, hg2, hS2⟩
      · split at h
        · next hc =>
          cases h
          refine lv_dup2_2 hx hb hdg (by rw [← rk_cat_ok hG.1 hg]; exact hc) ?_
          exact kk _ (List.mem_singleton.mpr rfl) vals ws H locs ls _ lc hG hl hL ⟨hg, hg, hg2, hS2⟩
        · cases h
    · cases h
  case pop =>
    simp [rk_len] at hlen; subst hlen
    simp only [rk_pure] at h
    split at h
    · next a r =>
      split at h
      · next hc =>
        cases h
        obtain ⟨v, k1, rfl, hg, hS1⟩ := hS.cons
        refine lv_pop hx hb hdg (by rw [← rk_cat_ok hG.1 hg]; exact hc) ?_
        exact kk _ (List.mem_singleton.mpr rfl) vals ws H locs ls _ lc hG hl hL hS1
      · cases h
    · cases h
  case pop2 =>
    simp [rk_len] at hlen; subst hlen
    simp only [rk_pure] at h
    split at h
    · next a r =>
      split at h
      · next hc =>
        cases h
        obtain ⟨v, k1, rfl, hg, hS1⟩ := hS.cons
        refine lv_pop2_2 hx hb hdg (by rw [← rk_cat_ok hG.1 hg]; exact hc) ?_
        exact kk _ (List.mem_singleton.mpr rfl) vals ws H locs ls _ lc hG hl hL hS1
      · cases h
    · cases h
  case iadd =>
    simp [rk_len] at hlen; subst hlen
    simp only [rk_pure] at h
    split at h
    · next b a r =>
      unfold rk_op2 at h
      split at h
      · next q hq =>
        cases h
        obtain ⟨vb, k1, rfl, gb, hSn⟩ := hS.cons; clear hS; have hS := hSn; clear hSn
        obtain ⟨va, k2, rfl, ga, hSn⟩ := hS.cons; clear hS; have hS := hSn; clear hSn
        obtain ⟨x, y, k3, rfl, rfl, hE2, hg2⟩ := rk_bin_ok rk_s_add hG.1 ga gb hq
        refine lv_iadd hx hb hdg ?_
        exact kk _ (List.mem_singleton.mpr rfl) (vals ++ k3) ws H locs ls _ lc (hG.env hE2) hl (hL.grow k3) ⟨hg2, rk_skG hS k3⟩
      · cases h
    · cases h
  case isub =>
    simp [rk_len] at hlen; subst hlen
    simp only [rk_pure] at h
    split at h
    · next b a r =>
      unfold rk_op2 at h
      split at h
      · next q hq =>
        cases h
        obtain ⟨vb, k1, rfl, gb, hSn⟩ := hS.cons; clear hS; have hS := hSn; clear hSn
        obtain ⟨va, k2, rfl, ga, hSn⟩ := hS.cons; clear hS; have hS := hSn; clear hSn
        obtain ⟨x, y, k3, rfl, rfl, hE2, hg2⟩ := rk_bin_ok rk_s_sub hG.1 ga gb hq
        refine lv_isub hx hb hdg ?_
        exact kk _ (List.mem_singleton.mpr rfl) (vals ++ k3) ws H locs ls _ lc (hG.env hE2) hl (hL.grow k3) ⟨hg2, rk_skG hS k3⟩
      · cases h
    · cases h
  case imul =>
    simp [rk_len] at hlen; subst hlen
    simp only [rk_pure] at h
    split at h
    · next b a r =>
      unfold rk_op2 at h
      split at h
      · next q hq =>
        cases h
        obtain ⟨vb, k1, rfl, gb, hSn⟩ := hS.cons; clear hS; have hS := hSn; clear hSn
        obtain ⟨va, k2, rfl, ga, hSn⟩ := hS.cons; clear hS; have hS := hSn; clear hSn
        obtain ⟨x, y, k3, rfl, rfl, hE2, hg2⟩ := rk_bin_ok (rk_s_full _) hG.1 ga gb hq
        refine lv_imul hx hb hdg ?_
        exact kk _ (List.mem_singleton.mpr rfl) (vals ++ k3) ws H locs ls _ lc (hG.env hE2) hl (hL.grow k3) ⟨hg2, rk_skG hS k3⟩
      · cases h
    · cases h
  case iand =>
    simp [rk_len] at hlen; subst hlen
    simp only [rk_pure] at h
    split at h
    · next b a r =>
      unfold rk_op2 at h
      split at h
      · next q hq =>
        cases h
        obtain ⟨vb, k1, rfl, gb, hSn⟩ := hS.cons; clear hS; have hS := hSn; clear hSn
        obtain ⟨va, k2, rfl, ga, hSn⟩ := hS.cons; clear hS; have hS := hSn; clear hSn
        obtain ⟨x, y, k3, rfl, rfl, hE2, hg2⟩ := rk_bin_ok rk_s_and hG.1 ga gb hq
        refine lv_iand hx hb hdg ?_
        exact kk _ (List.mem_singleton.mpr rfl) (vals ++ k3) ws H locs ls _ lc (hG.env hE2) hl (hL.grow k3) ⟨hg2, rk_skG hS k3⟩
      · cases h
    · cases h
  case ior =>
    simp [rk_len] at hlen; subst hlen
    simp only [rk_pure] at h
    split at h
    · next b a r =>
      unfold rk_op2 at h
      split at h
      · next q hq =>
        cases h
        obtain ⟨vb, k1, rfl, gb, hSn⟩ := hS.cons; clear hS; have hS := hSn; clear hSn
        obtain ⟨va, k2, rfl, ga, hSn⟩ := hS.cons; clear hS; have hS := hSn; clear hSn
        obtain ⟨x, y, k3, rfl, rfl, hE2, hg2⟩ := rk_bin_ok (rk_s_full _) hG.1 ga gb hq
        refine lv_ior hx hb hdg ?_
        exact kk _ (List.mem_singleton.mpr rfl) (vals ++ k3) ws H locs ls _ lc (hG.env hE2) hl (hL.grow k3) ⟨hg2, rk_skG hS k3⟩
      · cases h
    · cases h
  case ixor =>
    simp [rk_len] at hlen; subst hlen
    simp only [rk_pure] at h
    split at h
    · next b a r =>
      unfold rk_op2 at h
      split at h
      · next q hq =>
        cases h
        obtain ⟨vb, k1, rfl, gb, hSn⟩ := hS.cons; clear hS; have hS := hSn; clear hSn
        obtain ⟨va, k2, rfl, ga, hSn⟩ := hS.cons; clear hS; have hS := hSn; clear hSn
        obtain ⟨x, y, k3, rfl, rfl, hE2, hg2⟩ := rk_bin_ok (rk_s_full _) hG.1 ga gb hq
        refine lv_ixor hx hb hdg ?_
        exact kk _ (List.mem_singleton.mpr rfl) (vals ++ k3) ws H locs ls _ lc (hG.env hE2) hl (hL.grow k3) ⟨hg2, rk_skG hS k3⟩
      · cases h
    · cases h
  case ifCond cd off =>
    simp [rk_len] at hlen; subst hlen
    simp only [rk_pure] at h
    split at h
    · next a r =>
      obtain ⟨va, k1, rfl, ga, hSn⟩ := hS.cons; clear hS; have hS := hSn; clear hSn
      obtain ⟨x, y, tgt, rfl, ey, ht, k1, k2⟩ := rk_if_ok h kk hG hl hL ga (show rk_g vals (ws.map Prod.fst) (.inl (.int 0)) (.int 0) from rfl) hS
      cases ey
      cases cd
      case eq => exact lv_if_eq hx hb hdg ht (fun q => k1 (Int32.toInt_inj.mpr q)) (fun q => k2 (fun z => q (Int32.toInt_inj.mp z)))
      case ne => exact lv_if_ne hx hb hdg ht (fun q => k1 (fun z => q (Int32.toInt_inj.mp z))) (fun q => k2 (fun z => z (Int32.toInt_inj.mpr q)))
      case lt => exact lv_if_lt hx hb hdg ht (fun q => k1 (Int32.lt_iff_toInt_lt.mp q)) (fun q => k2 (fun z => q (Int32.lt_iff_toInt_lt.mpr z)))
      case ge => exact lv_if_ge hx hb hdg ht (fun q => k1 (Int32.le_iff_toInt_le.mp q)) (fun q => k2 (fun z => q (Int32.le_iff_toInt_le.mpr z)))
      case gt => exact lv_if_gt hx hb hdg ht (fun q => k1 (Int32.lt_iff_toInt_lt.mp q)) (fun q => k2 (fun z => q (Int32.lt_iff_toInt_lt.mpr z)))
      case le => exact lv_if_le hx hb hdg ht (fun q => k1 (Int32.le_iff_toInt_le.mp q)) (fun q => k2 (fun z => q (Int32.le_iff_toInt_le.mpr z)))
    · cases h
  case if_icmp cd off =>
    simp [rk_len] at hlen; subst hlen
    simp only [rk_pure] at h
    split at h
    · next b a r =>
      obtain ⟨vb, k0, rfl, gb, hSn⟩ := hS.cons; clear hS; have hS := hSn; clear hSn
      obtain ⟨va, k1, rfl, ga, hSn⟩ := hS.cons; clear hS; have hS := hSn; clear hSn
      obtain ⟨x, y, tgt, rfl, rfl, ht, k1, k2⟩ := rk_if_ok h kk hG hl hL ga gb hS
      cases cd
      case eq => exact lv_icmp_eq hx hb hdg ht (fun q => k1 (Int32.toInt_inj.mpr q)) (fun q => k2 (fun z => q (Int32.toInt_inj.mp z)))
      case ne => exact lv_icmp_ne hx hb hdg ht (fun q => k1 (fun z => q (Int32.toInt_inj.mp z))) (fun q => k2 (fun z => z (Int32.toInt_inj.mpr q)))
      case lt => exact lv_icmp_lt hx hb hdg ht (fun q => k1 (Int32.lt_iff_toInt_lt.mp q)) (fun q => k2 (fun z => q (Int32.lt_iff_toInt_lt.mpr z)))
      case ge => exact lv_icmp_ge hx hb hdg ht (fun q => k1 (Int32.le_iff_toInt_le.mp q)) (fun q => k2 (fun z => q (Int32.le_iff_toInt_le.mpr z)))
      case gt => exact lv_icmp_gt hx hb hdg ht (fun q => k1 (Int32.lt_iff_toInt_lt.mp q)) (fun q => k2 (fun z => q (Int32.lt_iff_toInt_lt.mpr z)))
      case le => exact lv_icmp_le hx hb hdg ht (fun q => k1 (Int32.le_iff_toInt_le.mp q)) (fun q => k2 (fun z => q (Int32.le_iff_toInt_le.mpr z)))
    · cases h
  case goto off =>
    simp [rk_len] at hlen; subst hlen
    simp only [rk_pure] at h
    split at h
    · next hpc =>
      cases h
      exact lv_goto (tgt := ((pc : Int) + off).toNat) hx hb hdg (by omega) (kk _ (List.mem_singleton.mpr rfl) vals ws H locs ls _ lc hG hl hL hS)
    · cases h
  all_goals (simp [rk_pure] at h)
theorem rk_nz_ok {env : List rk_T} {vals : List Value} {ads : List Nat} {b : rk_V} {y : Int32} (hE : rk_E env vals) (gb : rk_g vals ads b (.int y)) (h : rk_nz env b = true) : ¬ y = 0 := by
  unfold rk_nz at h
  split at h
  · next J hj =>
    obtain ⟨y', e, h1, h2⟩ := rk_iv_ok hE gb hj
    cases e
    intro hy
    subst hy
    have h0 : (0 : Int32).toInt = 0 := rfl
    rw [h0] at h1 h2
    simp at h
    omega
  · cases h
theorem rk_lnz_ok {vals : List Value} {ads : List Nat} {b : rk_V} {y : Int64} (gb : rk_g vals ads b (.long y)) (h : rk_lnz b = true) : ¬ y = 0 := by
  unfold rk_lnz at h
  split at h
  · next z =>
    have gb : Value.long y = Value.long z := gb
    cases gb
    exact of_decide_eq_true h
  · cases h
theorem rk_s_i2b (x : Int32) : (-128 : Int) ≤ (x.toInt8.toInt32).toInt ∧ (x.toInt8.toInt32).toInt ≤ 127 := by
  rw [Int8.toInt_toInt32]
  exact ⟨Int8.le_toInt _, Int8.toInt_le _⟩
theorem rk_s_i2s (x : Int32) : (-32768 : Int) ≤ (x.toInt16.toInt32).toInt ∧ (x.toInt16.toInt32).toInt ≤ 32767 := by
  rw [Int16.toInt_toInt32]
  exact ⟨Int16.le_toInt _, Int16.toInt_le _⟩
theorem rk_lg (x y : Int64) : (-1 : Int) ≤ (lg_cmp x y).toInt ∧ (lg_cmp x y).toInt ≤ 1 := by
  unfold lg_cmp
  split
  · decide
  · split <;> decide
theorem rk_ll (x : Int32) : x.toInt64.toInt32 = x := by
  apply Int32.toInt_inj.mp
  rw [Int64.toInt_toInt32, Int32.toInt_toInt64]
  obtain ⟨f1, f2⟩ := rk_full_ok x
  dsimp only [rk_full] at f1 f2
  exact Int.bmod_eq_of_le (by omega) (by omega)
theorem rk_lgc (x y : Int64) : (lg_cmp x y = 1 ∧ y.toInt < x.toInt) ∨ (lg_cmp x y = 0 ∧ x.toInt = y.toInt) ∨ (lg_cmp x y = -1 ∧ x.toInt < y.toInt) := by
  unfold lg_cmp
  split
  · next h => exact Or.inl ⟨rfl, Int64.lt_iff_toInt_lt.mp h⟩
  · next h =>
    split
    · next e => exact Or.inr (Or.inl ⟨rfl, by rw [e]⟩)
    · next e =>
      refine Or.inr (Or.inr ⟨rfl, ?_⟩)
      have h1 : ¬ y.toInt < x.toInt := fun z => h (Int64.lt_iff_toInt_lt.mpr z)
      have h2 : ¬ x.toInt = y.toInt := fun z => e (Int64.toInt_inj.mp z)
      omega
theorem rk_s_rem : rk_sound2 (fun x y => x - x / y * y) rk_irem := by
  intro x y I J h1 h2 h3 h4
  unfold rk_irem
  split
  · next h =>
    obtain ⟨a, ha, rfl⟩ := nI_of (x := x) (by rw [Int32.lt_iff_toInt_lt, Int32.toInt_zero]; omega)
    obtain ⟨d, hd, rfl⟩ := nI_of (x := y) (by rw [Int32.lt_iff_toInt_lt, Int32.toInt_zero]; omega)
    rw [nI_toInt hd] at h3 h4
    have h0 : 0 < d := by omega
    dsimp only
    rw [pk_rem ha h0 hd]
    have := Nat.mod_lt a h0
    rw [nI_toInt (by omega)]
    omega
  · exact rk_full_ok _
theorem rk_sw_ok {a : rk_V} {pc : Nat} {lo : List (Nat × rk_V)} {sk : List rk_V} {env : List rk_T} {hp : List rk_H} {nc ns : Nat} {vals : List Value} {ads : List Nat} {x : Int32} (hE : rk_E env vals) (ga : rk_g vals ads a (.int x)) : ∀ {offs : List Int} {v : Int} {k : Nat} {res : List (Nat × rk_S)}, rk_sw a pc lo sk env hp nc ns v offs = some res → k < offs.length → x.toInt = v + k → ∃ (o : Int) (env2 : List rk_T), offs[k]? = some o ∧ rk_E env2 vals ∧ 0 ≤ (pc : Int) + o ∧ (((pc : Int) + o).toNat, (lo, sk, env2, hp, nc, ns)) ∈ res := by
  intro offs
  induction offs with
  | nil => intro v k res _ hk; simp at hk
  | cons o offs ih =>
    intro v k res h hk hxv
    unfold rk_sw at h
    split at h
    · next hpc =>
      obtain ⟨r2, hr2, e1⟩ := Option.map_eq_some_iff.mp h
      subst e1
      cases k with
      | zero =>
        obtain ⟨e2, q1, q2⟩ := rk_cut_ok (lo := v) (hi := v) hE ga (by omega) (by omega)
        exact ⟨o, e2, rfl, q2, hpc, List.mem_append_left _ (rk_opt_mem q1 _ lo sk hp nc ns)⟩
      | succ k =>
        obtain ⟨o2, e2, q1, q2, q3, q4⟩ := ih hr2 (by simpa using hk) (by omega)
        exact ⟨o2, e2, by simpa using q1, q2, q3, List.mem_append_right _ q4⟩
    · cases h
set_option maxHeartbeats 4000000 in
theorem rk_pure2_ok (hx : p.tables.exec = Jvm.exec) (hb : c.code = cc) {pc : Nat} {ins : Instr} {len : Nat} {st : rk_S} {res : List (Nat × rk_S)} (hdg : decode cc pc = .ok (ins, len)) (hlen : rk_len ins len = true) (h : rk_pure2 pc ins st = some res) (kk : ∀ q ∈ res, rk_W (rk_KW p l e R s m args below meth c Q) s D cl Ad nL vals0 ads0 q.1 q.2) : rk_W (rk_KW p l e R s m args below meth c Q) s D cl Ad nL vals0 ads0 pc st := by
  obtain ⟨lo, sk, env, hp, nc, ns⟩ := st
  intro vals ws H locs ls stk lc hG hl hL hS
  dsimp only at hG hL hS ⊢
  cases ins

  case ishl =>
    simp [rk_len] at hlen; subst hlen
    simp only [rk_pure2] at h
    split at h
    · next b a r =>
      unfold rk_op2 at h
      split at h
      · next q hq =>
        cases h
        obtain ⟨vb, k1, rfl, gb, hSn⟩ := hS.cons; clear hS; have hS := hSn; clear hSn
        obtain ⟨va, k2, rfl, ga, hSn⟩ := hS.cons; clear hS; have hS := hSn; clear hSn
        obtain ⟨x, y, k3, rfl, rfl, hE2, hg2⟩ := rk_bin_ok (rk_s_full _) hG.1 ga gb hq
        refine lv_ishl hx hb hdg ?_
        exact kk _ (List.mem_singleton.mpr rfl) (vals ++ k3) ws H locs ls _ lc (hG.env hE2) hl (hL.grow k3) ⟨hg2, rk_skG hS k3⟩
      · cases h
    · cases h
  case ishr =>
    simp [rk_len] at hlen; subst hlen
    simp only [rk_pure2] at h
    split at h
    · next b a r =>
      unfold rk_op2 at h
      split at h
      · next q hq =>
        cases h
        obtain ⟨vb, k1, rfl, gb, hSn⟩ := hS.cons; clear hS; have hS := hSn; clear hSn
        obtain ⟨va, k2, rfl, ga, hSn⟩ := hS.cons; clear hS; have hS := hSn; clear hSn
        obtain ⟨x, y, k3, rfl, rfl, hE2, hg2⟩ := rk_bin_ok (rk_s_full _) hG.1 ga gb hq
        refine lv_ishr hx hb hdg ?_
        exact kk _ (List.mem_singleton.mpr rfl) (vals ++ k3) ws H locs ls _ lc (hG.env hE2) hl (hL.grow k3) ⟨hg2, rk_skG hS k3⟩
      · cases h
    · cases h
  case iushr =>
    simp [rk_len] at hlen; subst hlen
    simp only [rk_pure2] at h
    split at h
    · next b a r =>
      unfold rk_op2 at h
      split at h
      · next q hq =>
        cases h
        obtain ⟨vb, k1, rfl, gb, hSn⟩ := hS.cons; clear hS; have hS := hSn; clear hSn
        obtain ⟨va, k2, rfl, ga, hSn⟩ := hS.cons; clear hS; have hS := hSn; clear hSn
        obtain ⟨x, y, k3, rfl, rfl, hE2, hg2⟩ := rk_bin_ok (rk_s_full _) hG.1 ga gb hq
        refine lv_iushr hx hb hdg rfl ?_
        exact kk _ (List.mem_singleton.mpr rfl) (vals ++ k3) ws H locs ls _ lc (hG.env hE2) hl (hL.grow k3) ⟨hg2, rk_skG hS k3⟩
      · cases h
    · cases h
  case idiv =>
    simp [rk_len] at hlen; subst hlen
    simp only [rk_pure2] at h
    split at h
    · next b a r =>
      split at h
      · next hz =>
        unfold rk_op2 at h
        split at h
        · next q hq =>
          cases h
          obtain ⟨vb, k1, rfl, gb, hSn⟩ := hS.cons; clear hS; have hS := hSn; clear hSn
          obtain ⟨va, k2, rfl, ga, hSn⟩ := hS.cons; clear hS; have hS := hSn; clear hSn
          obtain ⟨x, y, k3, rfl, rfl, hE2, hg2⟩ := rk_bin_ok (rk_s_full _) hG.1 ga gb hq
          have hne : ¬ y = 0 := rk_nz_ok hG.1 gb hz
          refine lv_idiv hx hb hdg hne ?_
          exact kk _ (List.mem_singleton.mpr rfl) (vals ++ k3) ws H locs ls _ lc (hG.env hE2) hl (hL.grow k3) ⟨hg2, rk_skG hS k3⟩
        · cases h
      · cases h
    · cases h
  case irem =>
    simp [rk_len] at hlen; subst hlen
    simp only [rk_pure2] at h
    split at h
    · next b a r =>
      split at h
      · next hz =>
        unfold rk_op2 at h
        split at h
        · next q hq =>
          cases h
          obtain ⟨vb, k1, rfl, gb, hSn⟩ := hS.cons; clear hS; have hS := hSn; clear hSn
          obtain ⟨va, k2, rfl, ga, hSn⟩ := hS.cons; clear hS; have hS := hSn; clear hSn
          obtain ⟨x, y, k3, rfl, rfl, hE2, hg2⟩ := rk_bin_ok rk_s_rem hG.1 ga gb hq
          have hne : ¬ y = 0 := rk_nz_ok hG.1 gb hz
          refine lv_irem hx hb hdg hne ?_
          exact kk _ (List.mem_singleton.mpr rfl) (vals ++ k3) ws H locs ls _ lc (hG.env hE2) hl (hL.grow k3) ⟨hg2, rk_skG hS k3⟩
        · cases h
      · cases h
    · cases h
  case ineg =>
    simp [rk_len] at hlen; subst hlen
    simp only [rk_pure2] at h
    split at h
    · next a r =>
      unfold rk_op2 at h
      split at h
      · next q hq =>
        cases h
        obtain ⟨va, k2, rfl, ga, hSn⟩ := hS.cons; clear hS; have hS := hSn; clear hSn
        obtain ⟨x, k3, rfl, hE2, hg2⟩ := rk_un_ok (fun x => rk_full_ok _) hG.1 ga hq
        refine lv_ineg hx hb hdg ?_
        exact kk _ (List.mem_singleton.mpr rfl) (vals ++ k3) ws H locs ls _ lc (hG.env hE2) hl (hL.grow k3) ⟨hg2, rk_skG hS k3⟩
      · cases h
    · cases h
  case i2b =>
    simp [rk_len] at hlen; subst hlen
    simp only [rk_pure2] at h
    split at h
    · next a r =>
      unfold rk_op2 at h
      split at h
      · next q hq =>
        cases h
        obtain ⟨va, k2, rfl, ga, hSn⟩ := hS.cons; clear hS; have hS := hSn; clear hSn
        obtain ⟨x, k3, rfl, hE2, hg2⟩ := rk_un_ok rk_s_i2b hG.1 ga hq
        refine lv_i2b hx hb hdg rfl ?_
        exact kk _ (List.mem_singleton.mpr rfl) (vals ++ k3) ws H locs ls _ lc (hG.env hE2) hl (hL.grow k3) ⟨hg2, rk_skG hS k3⟩
      · cases h
    · cases h
  case i2s =>
    simp [rk_len] at hlen; subst hlen
    simp only [rk_pure2] at h
    split at h
    · next a r =>
      unfold rk_op2 at h
      split at h
      · next q hq =>
        cases h
        obtain ⟨va, k2, rfl, ga, hSn⟩ := hS.cons; clear hS; have hS := hSn; clear hSn
        obtain ⟨x, k3, rfl, hE2, hg2⟩ := rk_un_ok rk_s_i2s hG.1 ga hq
        refine lv_i2s hx hb hdg rfl ?_
        exact kk _ (List.mem_singleton.mpr rfl) (vals ++ k3) ws H locs ls _ lc (hG.env hE2) hl (hL.grow k3) ⟨hg2, rk_skG hS k3⟩
      · cases h
    · cases h
  case i2l =>
    simp [rk_len] at hlen; subst hlen
    simp only [rk_pure2] at h
    split at h
    · next x r =>
      cases h
      obtain ⟨va, k2, rfl, ga, hSn⟩ := hS.cons; clear hS; have hS := hSn; clear hSn
      cases ga
      refine lv_i2l hx hb hdg rfl ?_
      exact kk _ (List.mem_singleton.mpr rfl) vals ws H locs ls _ lc hG hl hL ⟨rfl, hS⟩
    · next k r =>
      split at h
      · next hi =>
        cases h
        obtain ⟨va, k2, rfl, ga, hSn⟩ := hS.cons; clear hS; have hS := hSn; clear hSn
        obtain ⟨I, hI⟩ := Option.isSome_iff_exists.mp hi
        obtain ⟨x, rfl, -, -⟩ := rk_iv_ok hG.1 ga hI
        refine lv_i2l hx hb hdg rfl ?_
        exact kk _ (List.mem_singleton.mpr rfl) vals ws H locs ls _ lc hG hl hL ⟨⟨x, ga, rfl⟩, hS⟩
      · cases h
    · cases h
  case l2i =>
    simp [rk_len] at hlen; subst hlen
    simp only [rk_pure2] at h
    split at h
    · next x r =>
      cases h
      obtain ⟨va, k2, rfl, ga, hSn⟩ := hS.cons; clear hS; have hS := hSn; clear hSn
      cases ga
      refine lv_l2i hx hb hdg rfl ?_
      exact kk _ (List.mem_singleton.mpr rfl) vals ws H locs ls _ lc hG hl hL ⟨rfl, hS⟩
    · next k r =>
      cases h
      obtain ⟨va, k2, rfl, ⟨x, hx1, rfl⟩, hSn⟩ := hS.cons; clear hS; have hS := hSn; clear hSn
      refine lv_l2i (v := x) hx hb hdg (rk_ll x) ?_
      exact kk _ (List.mem_singleton.mpr rfl) vals ws H locs ls _ lc hG hl hL ⟨hx1, hS⟩
    · next a r _ _ =>
      split at h
      · next hi =>
        obtain ⟨va, k2, rfl, ga, hSn⟩ := hS.cons; clear hS; have hS := hSn; clear hSn
        obtain ⟨x, rfl⟩ := rk_isL_ok hG.1 ga hi
        obtain ⟨k3, hE2, hg2⟩ := rk_fi_ok (ws.map Prod.fst) (x := x.toInt32) (I := rk_full) hG.1 (rk_full_ok _).1 (rk_full_ok _).2
        cases h
        refine lv_l2i hx hb hdg rfl ?_
        exact kk _ (List.mem_singleton.mpr rfl) (vals ++ k3) ws H locs ls _ lc (hG.env hE2) hl (hL.grow k3) ⟨hg2, rk_skG hS k3⟩
      · cases h
    · cases h
  case ladd =>
    simp [rk_len] at hlen; subst hlen
    simp only [rk_pure2] at h
    split at h
    · next b a r =>
      unfold rk_op2 at h
      split at h
      · next q hq =>
        cases h
        obtain ⟨vb, k1, rfl, gb, hSn⟩ := hS.cons; clear hS; have hS := hSn; clear hSn
        obtain ⟨va, k2, rfl, ga, hSn⟩ := hS.cons; clear hS; have hS := hSn; clear hSn
        obtain ⟨x, y, k3, rfl, rfl, hE2, hg2⟩ := rk_lbin_ok hG.1 ga gb hq
        refine lv_ladd hx hb hdg ?_
        exact kk _ (List.mem_singleton.mpr rfl) (vals ++ k3) ws H locs ls _ lc (hG.env hE2) hl (hL.grow k3) ⟨hg2, rk_skG hS k3⟩
      · cases h
    · cases h
  case lsub =>
    simp [rk_len] at hlen; subst hlen
    simp only [rk_pure2] at h
    split at h
    · next b a r =>
      unfold rk_op2 at h
      split at h
      · next q hq =>
        cases h
        obtain ⟨vb, k1, rfl, gb, hSn⟩ := hS.cons; clear hS; have hS := hSn; clear hSn
        obtain ⟨va, k2, rfl, ga, hSn⟩ := hS.cons; clear hS; have hS := hSn; clear hSn
        obtain ⟨x, y, k3, rfl, rfl, hE2, hg2⟩ := rk_lbin_ok hG.1 ga gb hq
        refine lv_lsub hx hb hdg ?_
        exact kk _ (List.mem_singleton.mpr rfl) (vals ++ k3) ws H locs ls _ lc (hG.env hE2) hl (hL.grow k3) ⟨hg2, rk_skG hS k3⟩
      · cases h
    · cases h
  case lmul =>
    simp [rk_len] at hlen; subst hlen
    simp only [rk_pure2] at h
    split at h
    · next b a r =>
      unfold rk_op2 at h
      split at h
      · next q hq =>
        cases h
        obtain ⟨vb, k1, rfl, gb, hSn⟩ := hS.cons; clear hS; have hS := hSn; clear hSn
        obtain ⟨va, k2, rfl, ga, hSn⟩ := hS.cons; clear hS; have hS := hSn; clear hSn
        obtain ⟨x, y, k3, rfl, rfl, hE2, hg2⟩ := rk_lbin_ok hG.1 ga gb hq
        refine lv_lmul hx hb hdg ?_
        exact kk _ (List.mem_singleton.mpr rfl) (vals ++ k3) ws H locs ls _ lc (hG.env hE2) hl (hL.grow k3) ⟨hg2, rk_skG hS k3⟩
      · cases h
    · cases h
  case land =>
    simp [rk_len] at hlen; subst hlen
    simp only [rk_pure2] at h
    split at h
    · next b a r =>
      unfold rk_op2 at h
      split at h
      · next q hq =>
        cases h
        obtain ⟨vb, k1, rfl, gb, hSn⟩ := hS.cons; clear hS; have hS := hSn; clear hSn
        obtain ⟨va, k2, rfl, ga, hSn⟩ := hS.cons; clear hS; have hS := hSn; clear hSn
        obtain ⟨x, y, k3, rfl, rfl, hE2, hg2⟩ := rk_lbin_ok hG.1 ga gb hq
        refine lv_land hx hb hdg ?_
        exact kk _ (List.mem_singleton.mpr rfl) (vals ++ k3) ws H locs ls _ lc (hG.env hE2) hl (hL.grow k3) ⟨hg2, rk_skG hS k3⟩
      · cases h
    · cases h
  case lor =>
    simp [rk_len] at hlen; subst hlen
    simp only [rk_pure2] at h
    split at h
    · next b a r =>
      unfold rk_op2 at h
      split at h
      · next q hq =>
        cases h
        obtain ⟨vb, k1, rfl, gb, hSn⟩ := hS.cons; clear hS; have hS := hSn; clear hSn
        obtain ⟨va, k2, rfl, ga, hSn⟩ := hS.cons; clear hS; have hS := hSn; clear hSn
        obtain ⟨x, y, k3, rfl, rfl, hE2, hg2⟩ := rk_lbin_ok hG.1 ga gb hq
        refine lv_lor hx hb hdg ?_
        exact kk _ (List.mem_singleton.mpr rfl) (vals ++ k3) ws H locs ls _ lc (hG.env hE2) hl (hL.grow k3) ⟨hg2, rk_skG hS k3⟩
      · cases h
    · cases h
  case lxor =>
    simp [rk_len] at hlen; subst hlen
    simp only [rk_pure2] at h
    split at h
    · next b a r =>
      unfold rk_op2 at h
      split at h
      · next q hq =>
        cases h
        obtain ⟨vb, k1, rfl, gb, hSn⟩ := hS.cons; clear hS; have hS := hSn; clear hSn
        obtain ⟨va, k2, rfl, ga, hSn⟩ := hS.cons; clear hS; have hS := hSn; clear hSn
        obtain ⟨x, y, k3, rfl, rfl, hE2, hg2⟩ := rk_lbin_ok hG.1 ga gb hq
        refine lv_lxor hx hb hdg ?_
        exact kk _ (List.mem_singleton.mpr rfl) (vals ++ k3) ws H locs ls _ lc (hG.env hE2) hl (hL.grow k3) ⟨hg2, rk_skG hS k3⟩
      · cases h
    · cases h
  case ldiv =>
    simp [rk_len] at hlen; subst hlen
    simp only [rk_pure2] at h
    split at h
    · next b a r =>
      split at h
      · next hz =>
        unfold rk_op2 at h
        split at h
        · next q hq =>
          cases h
          obtain ⟨vb, k1, rfl, gb, hSn⟩ := hS.cons; clear hS; have hS := hSn; clear hSn
          obtain ⟨va, k2, rfl, ga, hSn⟩ := hS.cons; clear hS; have hS := hSn; clear hSn
          obtain ⟨x, y, k3, rfl, rfl, hE2, hg2⟩ := rk_lbin_ok hG.1 ga gb hq
          have hne : ¬ y = 0 := rk_lnz_ok gb hz
          refine lv_ldiv hx hb hdg hne ?_
          exact kk _ (List.mem_singleton.mpr rfl) (vals ++ k3) ws H locs ls _ lc (hG.env hE2) hl (hL.grow k3) ⟨hg2, rk_skG hS k3⟩
        · cases h
      · cases h
    · cases h
  case lrem =>
    simp [rk_len] at hlen; subst hlen
    simp only [rk_pure2] at h
    split at h
    · next b a r =>
      split at h
      · next hz =>
        unfold rk_op2 at h
        split at h
        · next q hq =>
          cases h
          obtain ⟨vb, k1, rfl, gb, hSn⟩ := hS.cons; clear hS; have hS := hSn; clear hSn
          obtain ⟨va, k2, rfl, ga, hSn⟩ := hS.cons; clear hS; have hS := hSn; clear hSn
          obtain ⟨x, y, k3, rfl, rfl, hE2, hg2⟩ := rk_lbin_ok hG.1 ga gb hq
          have hne : ¬ y = 0 := rk_lnz_ok gb hz
          refine lv_lrem hx hb hdg hne ?_
          exact kk _ (List.mem_singleton.mpr rfl) (vals ++ k3) ws H locs ls _ lc (hG.env hE2) hl (hL.grow k3) ⟨hg2, rk_skG hS k3⟩
        · cases h
      · cases h
    · cases h
  case lshl =>
    simp [rk_len] at hlen; subst hlen
    simp only [rk_pure2] at h
    split at h
    · next b a r =>
      unfold rk_op2 at h
      split at h
      · next q hq =>
        cases h
        obtain ⟨vb, k1, rfl, gb, hSn⟩ := hS.cons; clear hS; have hS := hSn; clear hSn
        obtain ⟨va, k2, rfl, ga, hSn⟩ := hS.cons; clear hS; have hS := hSn; clear hSn
        obtain ⟨x, y, k3, rfl, rfl, hE2, hg2⟩ := rk_lsh_ok hG.1 ga gb hq
        refine lv_lshl hx hb hdg rfl ?_
        exact kk _ (List.mem_singleton.mpr rfl) (vals ++ k3) ws H locs ls _ lc (hG.env hE2) hl (hL.grow k3) ⟨hg2, rk_skG hS k3⟩
      · cases h
    · cases h
  case lshr =>
    simp [rk_len] at hlen; subst hlen
    simp only [rk_pure2] at h
    split at h
    · next b a r =>
      unfold rk_op2 at h
      split at h
      · next q hq =>
        cases h
        obtain ⟨vb, k1, rfl, gb, hSn⟩ := hS.cons; clear hS; have hS := hSn; clear hSn
        obtain ⟨va, k2, rfl, ga, hSn⟩ := hS.cons; clear hS; have hS := hSn; clear hSn
        obtain ⟨x, y, k3, rfl, rfl, hE2, hg2⟩ := rk_lsh_ok hG.1 ga gb hq
        refine lv_lshr hx hb hdg rfl ?_
        exact kk _ (List.mem_singleton.mpr rfl) (vals ++ k3) ws H locs ls _ lc (hG.env hE2) hl (hL.grow k3) ⟨hg2, rk_skG hS k3⟩
      · cases h
    · cases h
  case lushr =>
    simp [rk_len] at hlen; subst hlen
    simp only [rk_pure2] at h
    split at h
    · next b a r =>
      unfold rk_op2 at h
      split at h
      · next q hq =>
        cases h
        obtain ⟨vb, k1, rfl, gb, hSn⟩ := hS.cons; clear hS; have hS := hSn; clear hSn
        obtain ⟨va, k2, rfl, ga, hSn⟩ := hS.cons; clear hS; have hS := hSn; clear hSn
        obtain ⟨x, y, k3, rfl, rfl, hE2, hg2⟩ := rk_lsh_ok hG.1 ga gb hq
        refine lv_lushr hx hb hdg rfl ?_
        exact kk _ (List.mem_singleton.mpr rfl) (vals ++ k3) ws H locs ls _ lc (hG.env hE2) hl (hL.grow k3) ⟨hg2, rk_skG hS k3⟩
      · cases h
    · cases h
  case lcmp =>
    simp [rk_len] at hlen; subst hlen
    simp only [rk_pure2] at h
    split at h
    · next y x r =>
      cases h
      obtain ⟨vb, k1, rfl, gb, hSn⟩ := hS.cons; clear hS; have hS := hSn; clear hSn
      obtain ⟨va, k2, rfl, ga, hSn⟩ := hS.cons; clear hS; have hS := hSn; clear hSn
      cases ga; cases gb
      refine W.lcmp hx hb hdg ?_
      exact kk _ (List.mem_singleton.mpr rfl) vals ws H locs ls _ lc hG hl hL ⟨rfl, hS⟩
    · next y k r =>
      cases h
      obtain ⟨vb, k1, rfl, gb, hSn⟩ := hS.cons; clear hS; have hS := hSn; clear hSn
      cases gb
      obtain ⟨va, k2, rfl, ⟨x, hx1, rfl⟩, hSn⟩ := hS.cons; clear hS; have hS := hSn; clear hSn
      obtain ⟨f1, f2⟩ := rk_full_ok x
      dsimp only [rk_full] at f1 f2
      refine W.lcmp hx hb hdg ?_
      rcases rk_lgc x.toInt64 y with ⟨e1, e2⟩ | ⟨e1, e2⟩ | ⟨e1, e2⟩ <;> rw [Int32.toInt_toInt64] at e2 <;> rw [e1]
      · obtain ⟨e2, q1, q2⟩ := rk_cut_ok (lo := y.toInt + 1) (hi := 2147483647) hG.1 (show rk_g vals (ws.map Prod.fst) (.inr (.inr (.inl k))) (.int x) from hx1) (by omega) (by omega)
        exact kk _ (List.mem_append_left _ (rk_opt_mem q1 _ lo _ hp nc ns)) vals ws H locs ls _ lc (hG.env0 q2) hl hL ⟨rfl, hS⟩
      · obtain ⟨e2, q1, q2⟩ := rk_cut_ok (lo := y.toInt) (hi := y.toInt) hG.1 (show rk_g vals (ws.map Prod.fst) (.inr (.inr (.inl k))) (.int x) from hx1) (by omega) (by omega)
        exact kk _ (List.mem_append_right _ (List.mem_append_left _ (rk_opt_mem q1 _ lo _ hp nc ns))) vals ws H locs ls _ lc (hG.env0 q2) hl hL ⟨rfl, hS⟩
      · obtain ⟨e2, q1, q2⟩ := rk_cut_ok (lo := -2147483648) (hi := y.toInt - 1) hG.1 (show rk_g vals (ws.map Prod.fst) (.inr (.inr (.inl k))) (.int x) from hx1) (by omega) (by omega)
        exact kk _ (List.mem_append_right _ (List.mem_append_right _ (rk_opt_mem q1 _ lo _ hp nc ns))) vals ws H locs ls _ lc (hG.env0 q2) hl hL ⟨rfl, hS⟩
    · next k x r =>
      cases h
      obtain ⟨vb, k1, rfl, ⟨y, hy1, rfl⟩, hSn⟩ := hS.cons; clear hS; have hS := hSn; clear hSn
      obtain ⟨va, k2, rfl, ga, hSn⟩ := hS.cons; clear hS; have hS := hSn; clear hSn
      cases ga
      obtain ⟨f1, f2⟩ := rk_full_ok y
      dsimp only [rk_full] at f1 f2
      refine W.lcmp hx hb hdg ?_
      rcases rk_lgc x y.toInt64 with ⟨e1, e2⟩ | ⟨e1, e2⟩ | ⟨e1, e2⟩ <;> rw [Int32.toInt_toInt64] at e2 <;> rw [e1]
      · obtain ⟨e2, q1, q2⟩ := rk_cut_ok (lo := -2147483648) (hi := x.toInt - 1) hG.1 (show rk_g vals (ws.map Prod.fst) (.inr (.inr (.inl k))) (.int y) from hy1) (by omega) (by omega)
        exact kk _ (List.mem_append_left _ (rk_opt_mem q1 _ lo _ hp nc ns)) vals ws H locs ls _ lc (hG.env0 q2) hl hL ⟨rfl, hS⟩
      · obtain ⟨e2, q1, q2⟩ := rk_cut_ok (lo := x.toInt) (hi := x.toInt) hG.1 (show rk_g vals (ws.map Prod.fst) (.inr (.inr (.inl k))) (.int y) from hy1) (by omega) (by omega)
        exact kk _ (List.mem_append_right _ (List.mem_append_left _ (rk_opt_mem q1 _ lo _ hp nc ns))) vals ws H locs ls _ lc (hG.env0 q2) hl hL ⟨rfl, hS⟩
      · obtain ⟨e2, q1, q2⟩ := rk_cut_ok (lo := x.toInt + 1) (hi := 2147483647) hG.1 (show rk_g vals (ws.map Prod.fst) (.inr (.inr (.inl k))) (.int y) from hy1) (by omega) (by omega)
        exact kk _ (List.mem_append_right _ (List.mem_append_right _ (rk_opt_mem q1 _ lo _ hp nc ns))) vals ws H locs ls _ lc (hG.env0 q2) hl hL ⟨rfl, hS⟩
    · next b a r _ _ _ =>
      split at h
      · next hi =>
        rw [Bool.and_eq_true] at hi
        obtain ⟨vb, k1, rfl, gb, hSn⟩ := hS.cons; clear hS; have hS := hSn; clear hSn
        obtain ⟨va, k2, rfl, ga, hSn⟩ := hS.cons; clear hS; have hS := hSn; clear hSn
        obtain ⟨x, rfl⟩ := rk_isL_ok hG.1 ga hi.1
        obtain ⟨y, rfl⟩ := rk_isL_ok hG.1 gb hi.2
        obtain ⟨k3, hE2, hg2⟩ := rk_fi_ok (ws.map Prod.fst) (x := lg_cmp x y) (I := (-1, 1)) hG.1 (rk_lg x y).1 (rk_lg x y).2
        cases h
        refine W.lcmp hx hb hdg ?_
        exact kk _ (List.mem_singleton.mpr rfl) (vals ++ k3) ws H locs ls _ lc (hG.env hE2) hl (hL.grow k3) ⟨hg2, rk_skG hS k3⟩
      · cases h
    · cases h
  case tableswitch dflt low high offs =>
    simp only [rk_pure2] at h
    split at h
    · next a r =>
      split at h
      · next I hi =>
        split at h
        · next hc =>
          obtain ⟨va, k1, rfl, ga, hSn⟩ := hS.cons; clear hS; have hS := hSn; clear hSn
          obtain ⟨x, rfl, p1, p2⟩ := rk_iv_ok hG.1 ga hi
          obtain ⟨sw, hsw, e1⟩ := Option.map_eq_some_iff.mp h
          subst e1
          by_cases hlow : x.toInt < low ∨ high < x.toInt
          · refine lv_tableOut (tgt := ((pc : Int) + dflt).toNat) hx hb hdg hlow (by omega) ?_
            have b0 : (-2147483648 : Int) ≤ x.toInt := Int32.le_toInt x
            have b1 : x.toInt ≤ (2147483647 : Int) := Int32.toInt_le x
            rcases hlow with hl1 | hl1
            · obtain ⟨e2, q1, q2⟩ := rk_cut_ok (lo := -2147483648) (hi := low - 1) hG.1 ga b0 (by omega)
              exact kk _ (List.mem_append_right _ (List.mem_append_left _ (rk_opt_mem q1 _ lo r hp nc ns))) vals ws H locs ls _ lc (hG.env0 q2) hl hL hS
            · obtain ⟨e2, q1, q2⟩ := rk_cut_ok (lo := high + 1) (hi := 2147483647) hG.1 ga (by omega) b1
              exact kk _ (List.mem_append_right _ (List.mem_append_right _ (rk_opt_mem q1 _ lo r hp nc ns))) vals ws H locs ls _ lc (hG.env0 q2) hl hL hS
          · obtain ⟨o, env2, q1, q2, q3, q4⟩ := rk_sw_ok (v := low) (k := (x.toInt - low).toNat) hG.1 ga hsw (by omega) (by omega)
            rw [Array.getElem?_toList] at q1
            exact lv_tableIn (tgt := ((pc : Int) + o).toNat) hx hb hdg (by omega) (by omega) q1 (by omega) (kk _ (List.mem_append_left _ q4) vals ws H locs ls _ lc (hG.env0 q2) hl hL hS)
        · cases h
      · cases h
    · cases h
  all_goals (simp [rk_pure2] at h)
end RKP
end
section
/-! ===== rk: the steps that look at cells ===== -/
def rk_fit (env : List rk_T) (ty : FieldType) (v : rk_V) : Bool := match ty with
  | .int => (rk_iv env v).isSome
  | .long => rk_isL env v
  | .boolean => match rk_iv env v with
    | some I => decide (0 ≤ I.1) && decide (I.2 ≤ 1)
    | none => false
  | .object _ => match v with
    | .inr (.inl _) => true
    | .inl .null => true
    | _ => false
  | .array _ => match v with
    | .inr (.inl _) => true
    | .inl .null => true
    | _ => false
  | _ => false
def rk_lk : List (Nat × Nat × Nat × Nat) → Nat → Option (Nat × Nat × Nat)
  | [], _ => none
  | r :: k, i => if r.1 = i then some r.2 else rk_lk k i
theorem rk_lk_mem {i : Nat} {q : Nat × Nat × Nat} : ∀ {k : List (Nat × Nat × Nat × Nat)}, rk_lk k i = some q → (i, q) ∈ k := by
  intro k
  induction k with
  | nil => intro h; simp [rk_lk] at h
  | cons r k ih =>
    intro h
    unfold rk_lk at h
    split at h
    · next e => cases h; subst e; exact List.mem_cons_self
    · exact List.mem_cons_of_mem _ (ih h)
def rk_cst : List (Nat × Value) → Nat → Option Value
  | [], _ => none
  | r :: k, i => if r.1 = i then some r.2 else rk_cst k i
theorem rk_cst_mem {i : Nat} {q : Value} : ∀ {k : List (Nat × Value)}, rk_cst k i = some q → (i, q) ∈ k := by
  intro k
  induction k with
  | nil => intro h; simp [rk_cst] at h
  | cons r k ih =>
    intro h
    unfold rk_cst at h
    split at h
    · next e => cases h; subst e; exact List.mem_cons_self
    · exact List.mem_cons_of_mem _ (ih h)
/-- an index that is one number, within -/
def rk_ix (env : List rk_T) (a : rk_V) (n : Nat) : Option Nat := match rk_iv env a with
  | some I => if I.1 = I.2 ∧ 0 ≤ I.1 ∧ I.1 < n then some I.1.toNat else none
  | none => none
theorem rk_ix_ok {env : List rk_T} {vals : List Value} {ads : List Nat} {a : rk_V} {v : Value} {n k : Nat} (hE : rk_E env vals) (h : rk_g vals ads a v) (hi : rk_ix env a n = some k) : ∃ x : Int32, v = .int x ∧ vp_in x n ∧ x.toNatClampNeg = k := by
  unfold rk_ix at hi
  split at hi
  · next I hI =>
    obtain ⟨x, rfl, h1, h2⟩ := rk_iv_ok hE h hI
    split at hi
    · next hc =>
      cases hi
      have e : x.toInt = I.1 := by omega
      have hc2 : x.toNatClampNeg = I.1.toNat := by rw [← e]; rfl
      exact ⟨x, rfl, vp_in_iff.mpr ⟨by omega, by omega⟩, hc2⟩
    · cases hi
  · cases hi
/-- a place is set: nothing is noted where it holds that already -/
def rk_put (d : rk_V) (ov : List (Nat × rk_V)) (i : Nat) (v : rk_V) : List (Nat × rk_V) := if rk_look d ov i = v then ov else (i, v) :: ov
/-- a new row of rows: its places are the cells from b on -/
def rk_rows (b : Nat) : Nat → List (Nat × rk_V)
  | 0 => []
  | n + 1 => (n, .inr (.inl (b + n))) :: rk_rows b n
theorem rk_rows_look (d : rk_V) (b j : Nat) : ∀ n : Nat, rk_look d (rk_rows b n) j = if j < n then .inr (.inl (b + j)) else d := by
  intro n
  induction n with
  | zero => rfl
  | succ n ih =>
    show (if n = j then (.inr (.inl (b + n)) : rk_V) else rk_look d (rk_rows b n) j) = _
    by_cases e : n = j
    · rw [if_pos e, if_pos (by omega), e]
    · rw [if_neg e, ih]
      by_cases q : j < n
      · rw [if_pos q, if_pos (by omega)]
      · rw [if_neg q, if_neg (by omega)]
/-- the fields' types and whether they are final, class by class; the classes' names -/
abbrev rk_F : Type := List (List (FieldType × Bool))
def rk_heap (fty : rk_F) (cln : List String) (lk : List (Nat × Nat × Nat × Nat)) (cs : List (Nat × Value)) (pc : Nat) (ins : Instr) (st : rk_S) : rk_R :=
  let lo := st.1; let sk := st.2.1; let env := st.2.2.1; let hp := st.2.2.2.1; let nc := st.2.2.2.2.1; let ns := st.2.2.2.2.2
  match ins with
  | .getfield idx => match sk with
    | .inr (.inl j) :: r => match rk_lk lk idx, hp[j]? with
      | some (kd, ci, k), some (.inl o) => if kd ≤ 2 ∧ ci = o.1 then (match o.2[k]? with
        | some a => some [(pc + 3, (lo, rk_norm env a :: r, env, hp, nc, ns))]
        | none => none) else none
      | _, _ => none
    | _ => none
  | .putfield idx => match sk with
    | v :: .inr (.inl j) :: r => match rk_lk lk idx, hp[j]? with
      | some (kd, ci, k), some (.inl o) => if kd ≤ 2 ∧ ci = o.1 ∧ k < o.2.length then (match (fty[ci]?).bind (fun t => t[k]?) with
        | some t => if rk_fit env t.1 v = true ∧ (t.2 = true ↔ kd = 2) then some [(pc + 3, (lo, r, env, hp.set j (.inl (o.1, o.2.set k v)), nc, ns))] else none
        | none => none) else none
      | _, _ => none
    | _ => none
  | .iaload => match sk with
    | ix :: .inr (.inl j) :: r => match hp[j]? with
      | some (.inr (.int, n, d, ov)) => (match rk_ix env ix n with
        | some i => some [(pc + 1, (lo, rk_norm env (rk_look d ov i) :: r, env, hp, nc, ns))]
        | none => none)
      | _ => none
    | _ => none
  | .baload => match sk with
    | ix :: .inr (.inl j) :: r => match hp[j]? with
      | some (.inr (.byte, n, d, ov)) => (match rk_ix env ix n with
        | some i => some [(pc + 1, (lo, rk_norm env (rk_look d ov i) :: r, env, hp, nc, ns))]
        | none => none)
      | _ => none
    | _ => none
  | .laload => match sk with
    | ix :: .inr (.inl j) :: r => match hp[j]? with
      | some (.inr (.long, n, d, ov)) => (match rk_ix env ix n with
        | some i => some [(pc + 1, (lo, rk_look d ov i :: r, env, hp, nc, ns))]
        | none => none)
      | _ => none
    | _ => none
  | .aaload => match sk with
    | ix :: .inr (.inl j) :: r => match hp[j]? with
      | some (.inr (.object _, n, d, ov)) => (match rk_ix env ix n with
        | some i => some [(pc + 1, (lo, rk_look d ov i :: r, env, hp, nc, ns))]
        | none => none)
      | some (.inr (.array _, n, d, ov)) => (match rk_ix env ix n with
        | some i => some [(pc + 1, (lo, rk_look d ov i :: r, env, hp, nc, ns))]
        | none => none)
      | _ => none
    | _ => none
  | .iastore => match sk with
    | v :: ix :: .inr (.inl j) :: r => match hp[j]? with
      | some (.inr (.int, n, d, ov)) => (match rk_ix env ix n with
        | some i => if (rk_iv env v).isSome then some [(pc + 1, (lo, r, env, hp.set j (.inr (.int, n, d, rk_put d ov i v)), nc, ns))] else none
        | none => none)
      | _ => none
    | _ => none
  | .bastore => match sk with
    | v :: ix :: .inr (.inl j) :: r => match hp[j]? with
      | some (.inr (.byte, n, d, ov)) => (match rk_ix env ix n, rk_iv env v with
        | some i, some I => if -128 ≤ I.1 ∧ I.2 ≤ 127 then some [(pc + 1, (lo, r, env, hp.set j (.inr (.byte, n, d, rk_put d ov i v)), nc, ns))] else none
        | _, _ => none)
      | _ => none
    | _ => none
  | .lastore => match sk with
    | v :: ix :: .inr (.inl j) :: r => match hp[j]? with
      | some (.inr (.long, n, d, ov)) => (match rk_ix env ix n with
        | some i => if rk_isL env v then some [(pc + 1, (lo, r, env, hp.set j (.inr (.long, n, d, rk_put d ov i v)), nc, ns))] else none
        | none => none)
      | _ => none
    | _ => none
  | .aastore => match sk with
    | .inr (.inl y) :: ix :: .inr (.inl j) :: r => match hp[j]?, hp[y]? with
      | some (.inr (.object C, n, d, ov)), some (.inl o) => (match rk_ix env ix n with
        | some i => if cln[o.1]? = some C then some [(pc + 1, (lo, r, env, hp.set j (.inr (.object C, n, d, (i, .inr (.inl y)) :: ov)), nc, ns))] else none
        | none => none)
      | _, _ => none
    | _ => none
  | .arraylength => match sk with
    | .inr (.inl j) :: r => match hp[j]? with
      | some (.inr q) => some [(pc + 1, (lo, .inl (.int (Int32.ofNat q.2.1)) :: r, env, hp, nc, ns))]
      | _ => none
    | _ => none
  | .newarray at_ => match sk with
    | .inl (.int x) :: r => if 0 ≤ x.toInt ∧ x.toInt ≤ 100000 then (match at_ with
      | .int => some [(pc + 2, (lo, .inr (.inl hp.length) :: r, env, hp ++ [.inr (.int, x.toNatClampNeg, .inl (.int 0), [])], nc + 1, ns + x.toNatClampNeg))]
      | .byte => some [(pc + 2, (lo, .inr (.inl hp.length) :: r, env, hp ++ [.inr (.byte, x.toNatClampNeg, .inl (.int 0), [])], nc + 1, ns + x.toNatClampNeg))]
      | .long => some [(pc + 2, (lo, .inr (.inl hp.length) :: r, env, hp ++ [.inr (.long, x.toNatClampNeg, .inl (.long 0), [])], nc + 1, ns + x.toNatClampNeg))]
      | _ => none) else none
    | _ => none
  | .anewarray idx => match sk with
    | .inl (.int x) :: r => if 0 ≤ x.toInt ∧ x.toInt ≤ 100000 then (match rk_lk (lk.filter (fun r => r.2.1 == 4)) idx with
      | some (4, ci, _) => (match cln[ci]? with
        | some C => some [(pc + 3, (lo, .inr (.inl hp.length) :: r, env, hp ++ [.inr (.object C, x.toNatClampNeg, .inl .null, [])], nc + 1, ns + x.toNatClampNeg))]
        | none => none)
      | _ => none) else none
    | _ => none
  | .multianewarray idx dims => match sk with
    | .inl (.int y) :: .inl (.int x) :: r => if (dims : Nat) = 2 ∧ (0 ≤ x.toInt ∧ x.toInt ≤ 1000) ∧ 0 ≤ y.toInt ∧ y.toInt ≤ 1000 then (match rk_lk lk idx with
      | some (13, _, _) => some [(pc + 4, (lo, .inr (.inl hp.length) :: r, env, hp ++ ([.inr (.array .long, x.toNatClampNeg, .inl .null, rk_rows (hp.length + 1) x.toNatClampNeg)] ++ List.replicate x.toNatClampNeg (.inr (.long, y.toNatClampNeg, .inl (.long 0), []))), nc + 1 + x.toNatClampNeg, ns + x.toNatClampNeg + x.toNatClampNeg * y.toNatClampNeg))]
      | _ => none) else none
    | _ => none
  | .new idx => match rk_lk lk idx with
    | some (3, ci, _) => (match fty[ci]? with
      | some tf => some [(pc + 3, (lo, .inr (.inl hp.length) :: sk, env, hp ++ [.inl (ci, tf.map (fun t => .inl (defaultValue t.1)))], nc + 1, ns + tf.length))]
      | none => none)
    | _ => none
  | .ldc idx => match rk_cst cs idx with
    | some (.int x) => some [(pc + 2, (lo, .inl (.int x) :: sk, env, hp, nc, ns))]
    | _ => none
  | .ldc_w idx => match rk_cst cs idx with
    | some (.int x) => some [(pc + 3, (lo, .inl (.int x) :: sk, env, hp, nc, ns))]
    | _ => none
  | .ldc2_w idx => match rk_cst cs idx with
    | some (.long x) => some [(pc + 3, (lo, .inl (.long x) :: sk, env, hp, nc, ns))]
    | _ => none
  | _ => none
end
section
/-! ===== rk: the steps that look at cells are sound ===== -/
theorem rk_fit_ok {env : List rk_T} {vals : List Value} {ads : List Nat} {ty : FieldType} {a : rk_V} {v : Value} (hE : rk_E env vals) (h : rk_g vals ads a v) (hf : rk_fit env ty a = true) : narrow ty v = v ∧ fits ty v = true := by
  unfold rk_fit at hf
  split at hf
  · obtain ⟨I, hI⟩ := Option.isSome_iff_exists.mp hf
    obtain ⟨x, rfl, -, -⟩ := rk_iv_ok hE h hI
    exact ⟨rfl, rfl⟩
  · obtain ⟨x, rfl⟩ := rk_isL_ok hE h hf
    exact ⟨rfl, rfl⟩
  · split at hf
    · next I hI =>
      obtain ⟨x, rfl, h1, h2⟩ := rk_iv_ok hE h hI
      simp only [Bool.and_eq_true, decide_eq_true_eq] at hf
      have hx : x.toInt = 0 ∨ x.toInt = 1 := by omega
      rcases hx with h0 | h0
      · have : x = 0 := Int32.toInt_inj.mp h0
        subst this
        exact ⟨rfl, rfl⟩
      · have : x = 1 := Int32.toInt_inj.mp h0
        subst this
        exact ⟨rfl, rfl⟩
    · cases hf
  · split at hf
    · obtain ⟨x, -, rfl⟩ := h
      exact ⟨rfl, rfl⟩
    · have h : v = .null := h
      subst h
      exact ⟨rfl, rfl⟩
    · cases hf
  · split at hf
    · obtain ⟨x, -, rfl⟩ := h
      exact ⟨rfl, rfl⟩
    · have h : v = .null := h
      subst h
      exact ⟨rfl, rfl⟩
    · cases hf
  · cases hf
theorem rk_map_set {ws : va_W} {j a : Nat} {e e' : va_E} (h : ws[j]? = some (a, e)) : (ws.set j (a, e')).map Prod.fst = ws.map Prod.fst := by
  apply List.ext_getElem?
  intro i
  rw [List.getElem?_map, List.getElem?_map, List.getElem?_set]
  split
  · next q =>
    subst q
    rw [h]
    simp [(List.getElem?_eq_some_iff.mp h).1]
  · rfl
section RKH
variable {s : State} {D : va_G} {cl : List vw_C} {Ad : Nat → Prop} {vals0 : List Value} {ads0 : List Nat} {vals : List Value} {ws : va_W} {H : Heap} {locs : List Loc} {env : List rk_T} {hp : List rk_H}
theorem rk_G.cell (hG : rk_G s D cl Ad vals0 ads0 vals ws H locs env hp) {j a : Nat} {c : rk_H} (hj : hp[j]? = some c) (ha : (ws.map Prod.fst)[j]? = some a) : ∃ e, ws[j]? = some (a, e) ∧ rk_c s vals (ws.map Prod.fst) c e := by
  obtain ⟨q, h1, h2⟩ := hG.2.1.get hj
  rw [List.getElem?_map, h1] at ha
  cases ha
  exact ⟨q.2, h1, h2⟩
theorem rk_G.setc (hG : rk_G s D cl Ad vals0 ads0 vals ws H locs env hp) {j a : Nat} {e e' : va_E} {c' : rk_H} {H1 : Heap} {locs1 : List Loc} (hj : ws[j]? = some (a, e)) (hP : va_P D cl (ws.set j (a, e')) H1) (hD : va_D Ad (ws.set j (a, e'))) (hS : va_S Ad s.heap H1 locs1) (hc : rk_c s vals (ws.map Prod.fst) c' e') : rk_G s D cl Ad vals0 ads0 vals (ws.set j (a, e')) H1 locs1 env (hp.set j c') := by
  obtain ⟨h1, h2, -, -, -, h6, h7⟩ := hG
  rw [← rk_map_set hj (e' := e')] at h2 h7 hc
  exact ⟨h1, rk_A2.set (R := fun (c : rk_H) (q : Nat × va_E) => rk_c s vals ((ws.set j (a, e')).map Prod.fst) c q.2) hc h2 j, hP, hD, hS, h6, h7⟩
theorem rk_G.newc (hG : rk_G s D cl Ad vals0 ads0 vals ws H locs env hp) {q : Nat} {e' : va_E} {c' : rk_H} {H1 : Heap} (hP : va_P D cl (ws ++ [(q, e')]) H1) (hD : va_D Ad (ws ++ [(q, e')])) (hS : va_S Ad s.heap H1 locs) (hc : rk_c s vals (ws.map Prod.fst) c' e') : rk_G s D cl Ad vals0 ads0 vals (ws ++ [(q, e')]) H1 locs env (hp ++ [c']) := by
  obtain ⟨h1, h2, -, -, -, h6, k0, h7⟩ := hG
  have hm : (ws ++ [(q, e')]).map Prod.fst = ws.map Prod.fst ++ [q] := by simp
  refine ⟨h1, ?_, hP, hD, hS, h6, k0 ++ [q], by rw [hm, h7, List.append_assoc]⟩
  rw [hm]
  exact rk_A2.push (h2.mono (fun _ _ h => h.grow ⟨[], by simp⟩ ⟨[q], rfl⟩)) (hc.grow ⟨[], by simp⟩ ⟨[q], rfl⟩)
end RKH
theorem rk_mapnew {ws : va_W} {q : Nat} {e' : va_E} : (ws ++ [(q, e')]).map Prod.fst = ws.map Prod.fst ++ [q] := by simp
theorem rk_K1 {D : va_G} {cl : List vw_C} {s : State} {cA : ClassId} {ty : FieldType} (hK : va_K D cl [] s) (h1 : ArrOfT s cA ty) (h2 : va_RA s cA ty) : va_K D cl [(cA, ty)] s := ⟨hK.1, fun k q h => by
  cases k with
  | zero => cases h; exact ⟨h1, h2⟩
  | succ k => simp at h⟩
theorem rk_look_upd {vals : List Value} {ads : List Nat} {d v : rk_V} {ov : List (Nat × rk_V)} {i : Nat} {f : Nat → Int32} {x : Int32} (h : ∀ j, rk_g vals ads (rk_look d ov j) (.int (f j))) (hv : rk_g vals ads v (.int x)) : ∀ j, rk_g vals ads (rk_look d (rk_put d ov i v) j) (.int (upd f i x j)) := by
  intro j
  unfold rk_put
  split
  · next q =>
    by_cases e : i = j
    · subst e
      rw [q, pk_us]
      exact hv
    · rw [pk_un (Ne.symm e)]
      exact h j
  · unfold rk_look
    dsimp only
    by_cases e : i = j
    · subst e
      rw [if_pos rfl, pk_us]
      exact hv
    · rw [if_neg e, pk_un (Ne.symm e)]
      exact h j
theorem rk_look_updL {vals : List Value} {ads : List Nat} {d v : rk_V} {ov : List (Nat × rk_V)} {i : Nat} {f : Nat → Int64} {x : Int64} (h : ∀ j, rk_g vals ads (rk_look d ov j) (.long (f j))) (hv : rk_g vals ads v (.long x)) : ∀ j, rk_g vals ads (rk_look d (rk_put d ov i v) j) (.long (vp_updL f i x j)) := by
  intro j
  unfold rk_put
  split
  · next q =>
    by_cases e : i = j
    · subst e
      rw [q, pk_uLs]
      exact hv
    · rw [pk_uLn (Ne.symm e)]
      exact h j
  · unfold rk_look
    dsimp only
    by_cases e : i = j
    · subst e
      rw [if_pos rfl, pk_uLs]
      exact hv
    · rw [if_neg e, pk_uLn (Ne.symm e)]
      exact h j
/-- what a link must be for the tables -/
def rk_lok (tbl xw : List Jvm.Cond) (cl : List vw_C) (own : String) (r : Nat × Nat × Nat × Nat) : Prop := match r.2.1 with
  | 0 => ∃ q, cl[r.2.2.1]? = some q ∧ r.2.2.2 < q.2.2 ∧ Jvm.Cond.fieldLink own r.1 (q.2.1 r.2.2.2).1 (q.2.1 r.2.2.2).2.1 (q.2.1 r.2.2.2).2.2.1 ∈ tbl
  | 1 => ∃ q host, cl[r.2.2.1]? = some q ∧ r.2.2.2 < q.2.2 ∧ Jvm.Cond.fieldLinkNest own r.1 (q.2.1 r.2.2.2).1 (q.2.1 r.2.2.2).2.1 (q.2.1 r.2.2.2).2.2.1 host ∈ xw
  | 2 => ∃ q, cl[r.2.2.1]? = some q ∧ r.2.2.2 < q.2.2 ∧ Jvm.Cond.fieldLink own r.1 (q.2.1 r.2.2.2).1 (q.2.1 r.2.2.2).2.1 (q.2.1 r.2.2.2).2.2.1 ∈ tbl ∧ (q.2.1 r.2.2.2).1 = own
  | 3 => ∃ q, cl[r.2.2.1]? = some q ∧ Jvm.Cond.classLink own r.1 q.1 ∈ tbl ∧ Jvm.Cond.instantiable q.1 q.2.2 ∈ tbl ∧ Jvm.Cond.initialized q.1 ∈ tbl
  | 4 => ∃ q, cl[r.2.2.1]? = some q ∧ Jvm.Cond.classLink own r.1 q.1 ∈ tbl ∧ Jvm.Cond.arrayOver (.object q.1) ∈ xw
  | 13 => Jvm.Cond.classLink own r.1 "[[J" ∈ tbl ∧ Jvm.Cond.arrayOver (.array .long) ∈ xw
  | 14 => Jvm.Cond.methodLink own r.1 Lib.Math.max.name ∈ tbl ∧ Jvm.Cond.static Lib.Math.max.name ∈ tbl ∧ Jvm.Cond.initialized "java/lang/Math" ∈ tbl ∧ Jvm.Cond.code Lib.Math.max.name Lib.Math.max.code 2 (some .int) ∈ tbl
  | 15 => Jvm.Cond.methodLink own r.1 Lib.Math.min.name ∈ tbl ∧ Jvm.Cond.static Lib.Math.min.name ∈ tbl ∧ Jvm.Cond.initialized "java/lang/Math" ∈ tbl ∧ Jvm.Cond.code Lib.Math.min.name Lib.Math.min.code 2 (some .int) ∈ tbl
  | 16 => Jvm.Cond.methodLink own r.1 Lib.MathLoose.max_long.x ∈ tbl ∧ Jvm.Cond.static Lib.MathLoose.max_long.x ∈ tbl ∧ Jvm.Cond.initialized "java/lang/Math" ∈ tbl ∧ Jvm.Cond.code Lib.MathLoose.max_long.x Lib.MathLoose.max_long.code 4 (some .long) ∈ tbl
  | 17 => Jvm.Cond.methodLink own r.1 Lib.Math.abs.name ∈ tbl ∧ Jvm.Cond.static Lib.Math.abs.name ∈ tbl ∧ Jvm.Cond.initialized "java/lang/Math" ∈ tbl ∧ Jvm.Cond.code Lib.Math.abs.name Lib.Math.abs.code 1 (some .int) ∈ tbl
  | _ => True
/-- what a class must be for the tables -/
def rk_clok (tbl : List Jvm.Cond) (cl : List vw_C) (fty : rk_F) (cln : List String) : Prop := ∀ (ci : Nat) (q : vw_C), cl[ci]? = some q → (∀ w ∈ u_ws q.1 q.2.1 q.2.2, w ∈ tbl) ∧ (∀ a, a < q.2.2 → ∀ b, b < q.2.2 → a ≠ b → (q.2.1 a).2.1 ≠ (q.2.1 b).2.1) ∧ cln[ci]? = some q.1 ∧ ∃ tf, fty[ci]? = some tf ∧ tf.length = q.2.2 ∧ ∀ (k : Nat) (t : FieldType × Bool), tf[k]? = some t → parseFieldDescriptor (q.2.1 k).2.2.1 = some t.1 ∧ (q.2.1 k).2.2.2 = t.2
theorem rk_ty {T : u_T} {tf : List (FieldType × Bool)} {N : Nat} (hN : tf.length = N) (h : ∀ (k : Nat) (t : FieldType × Bool), tf[k]? = some t → parseFieldDescriptor (T k).2.2.1 = some t.1 ∧ (T k).2.2.2 = t.2) : ∀ k, k < N → parseFieldDescriptor (T k).2.2.1 = some ((fun k => ((tf[k]?).map Prod.fst).getD .int) k) := by
  intro k hk
  have hk' : k < tf.length := by omega
  have e : tf[k]? = some tf[k] := List.getElem?_eq_getElem hk'
  rw [(h k _ e).1]
  dsimp only
  rw [e]
  rfl
theorem rk_defs {vals : List Value} {ads : List Nat} : ∀ (tf : List (FieldType × Bool)), rk_A2 (rk_g vals ads) (tf.map (fun t => (.inl (defaultValue t.1) : rk_V))) (tf.map (fun t => defaultValue t.1))
  | [] => trivial
  | _ :: tf => ⟨rfl, rk_defs tf⟩
section RKQ
variable {p : Program} {l : Launch} {e : Env} {R : Room} {s : State} {m : MethodId} {args : Array Value} {below : List Frame} {meth : Method} {c : Code} {Q : State → Prop} {cc : ByteArray} {D : va_G} {cl : List vw_C} {Ad : Nat → Prop} {nL : Nat} {vals0 : List Value} {ads0 : List Nat}
variable {tbl xw : List Jvm.Cond} {fty : rk_F} {cln : List String} {own : String} {lk : List (Nat × Nat × Nat × Nat)} {cs : List (Nat × Value)}
/-- what a frame knows of the tables -/
def rk_Fr (s : State) (m : MethodId) (args : Array Value) (meth : Method) (D : va_G) (cl : List vw_C) (Ad : Nat → Prop) (tbl xw : List Jvm.Cond) (fty : rk_F) (cln : List String) (own : String) (lk : List (Nat × Nat × Nat × Nat)) (cs : List (Nat × Value)) : Prop :=
  (∀ w ∈ tbl, w.before args s = true) ∧ (∀ w ∈ xw, va_Nw w s) ∧ s.vm.findClass own = some m.cls ∧ va_K D cl [] s ∧ (∀ q, s.heap.size ≤ q → Ad q) ∧ rk_clok tbl cl fty cln ∧ (∀ r ∈ lk, rk_lok tbl xw cl own r) ∧ ((∃ r ∈ lk, r.2.1 = 2) → meth.name = "<init>") ∧ (Jvm.Cond.arrayClass .int ∈ tbl ∧ Jvm.Cond.arrayClass .byte ∈ tbl ∧ Jvm.Cond.arrayClass .long ∈ tbl) ∧
  (∀ r ∈ cs, (∀ x, r.2 = .int x → Jvm.Cond.constant own r.1 x ∈ tbl) ∧ (∀ x, r.2 = .long x → Jvm.Cond.constantLong own r.1 x ∈ tbl))
theorem va_alda {a : Nat} {tys : List (ClassId × FieldType)} {ws : va_W} {H : Heap} {locs : List Loc} {cells slots pc : Nat} {ls : Array Slot} {rest : List Value} (hexec : p.tables.exec = Jvm.exec) (hb : c.code = cc) (hK : va_K D cl tys s) (hP : va_P D cl ws H) (q0 t0 : Nat) {cA : ClassId} {t : FieldType} {n : Nat} {f : Nat → Option Nat} (ha : ws[q0]? = some (a, .inl (cA, n, .inr (.inr (.inr (.inr f)))))) (ht : tys[t0]? = some (cA, .array t)) {i : Int32} (hin : vp_in i n) (hdg : decode cc pc = .ok (.aaload, 1))
    (kk : W p l e R s m args below meth c H locs cells slots Q (F0 m (pc + 1) ls (va_rf (f i.toNatClampNeg) :: rest))) : W p l e R s m args below meth c H locs cells slots Q (F0 m pc ls (.int i :: .ref a :: rest)) := by
  have hlt : i.toNatClampNeg < n := Nat.not_le.mp fun q => hin (Or.inr q)
  exact W.aald (v := va_rf (f i.toNatClampNeg)) (ty := .array t) hexec hb (hP q0 _ ha) ((hK.2 t0 _ ht).1 n (fun j => va_rf (f j))) rfl (fun q => by cases q) (by show ¬ (i < 0 ∨ (arrV _ _ _).slots.size ≤ _); rw [arrV_size]; exact hin) (by show (arrV _ _ _).slots[_]? = _; rw [arrV_read _ _ hlt]) rfl rfl hdg kk
theorem rk_A2.rep {α β γ : Type} {R : α → β → Prop} {c : α} {g : γ → β} (h : ∀ a, R c (g a)) : ∀ (l : List γ), rk_A2 R (List.replicate l.length c) (l.map g)
  | [] => trivial
  | a :: l => ⟨h a, rk_A2.rep h l⟩
set_option maxHeartbeats 4000000 in
theorem rk_heap_ok (hx : p.tables.exec = Jvm.exec) (hb : c.code = cc) (hF : rk_Fr s m args meth D cl Ad tbl xw fty cln own lk cs) {pc : Nat} {ins : Instr} {len : Nat} {st : rk_S} {res : List (Nat × rk_S)} (hdg : decode cc pc = .ok (ins, len)) (hlen : rk_len ins len = true) (h : rk_heap fty cln lk cs pc ins st = some res) (hroom : ∀ q ∈ res, q.2.2.2.2.2.1 ≤ R.cells ∧ q.2.2.2.2.2.2 ≤ R.slots) (kk : ∀ q ∈ res, rk_W (rk_KW p l e R s m args below meth c Q) s D cl Ad nL vals0 ads0 q.1 q.2) : rk_W (rk_KW p l e R s m args below meth c Q) s D cl Ad nL vals0 ads0 pc st := by
  obtain ⟨hts, hxw, hown, hK, hA, hcl, hlk, hini, hac, hcs⟩ := hF
  obtain ⟨lo, sk, env, hp, nc, ns⟩ := st
  intro vals ws H locs ls stk lc hG hl hL hS
  dsimp only at hG hL hS ⊢
  cases ins
  case getfield idx =>
    simp [rk_len] at hlen; subst hlen
    simp only [rk_heap] at h
    split at h
    · next j r =>
      split at h
      · next kd ci k o hlk1 hj =>
        split at h
        · next hc =>
          split at h
          · next a ha =>
            cases h
            obtain ⟨hkd, rfl⟩ := hc
            obtain ⟨va, k1, rfl, ⟨x, hjx, rfl⟩, hSn⟩ := hS.cons; clear hS; have hS := hSn; clear hSn
            obtain ⟨e1, hw, vs, rfl, hvs⟩ := hG.cell hj hjx
            obtain ⟨v, hv, hg⟩ := hvs.get ha
            have hr := hlk _ (rk_lk_mem hlk1)
            have fin : rk_KW p l e R s m args below meth c Q (pc + 3) ls (v :: k1) H locs nc ns := kk _ (List.mem_singleton.mpr rfl) vals ws H locs ls _ lc hG hl hL ⟨rk_norm_ok hG.1 hg, hS⟩
            rcases (show kd = 0 ∨ kd = 1 ∨ kd = 2 by omega) with rfl | rfl | rfl
            · obtain ⟨q, hq, hkN, hm⟩ := hr
              exact va_get (C := q.1) (T := q.2.1) (N := q.2.2) hx hb hts (hcl _ _ hq).1 hown hK hG.2.2.1 j hw hq k hkN (hts _ hm) (fun _ h9 => h9) hv hdg fin
            · obtain ⟨q, host, hq, hkN, hm⟩ := hr
              exact va_getN (C := q.1) (T := q.2.1) (N := q.2.2) hx hb hts (hcl _ _ hq).1 hown hK hG.2.2.1 j hw hq k hkN (va_Nw.use rfl (hxw _ hm)) (fun _ h9 => h9) hv hdg fin
            · obtain ⟨q, hq, hkN, hm, -⟩ := hr
              exact va_get (C := q.1) (T := q.2.1) (N := q.2.2) hx hb hts (hcl _ _ hq).1 hown hK hG.2.2.1 j hw hq k hkN (hts _ hm) (fun _ h9 => h9) hv hdg fin
          · cases h
        · cases h
      · cases h
    · cases h
  case putfield idx =>
    simp [rk_len] at hlen; subst hlen
    simp only [rk_heap] at h
    split at h
    · next v0 j r =>
      split at h
      · next kd ci k o hlk1 hj =>
        split at h
        · next hc =>
          split at h
          · next t ht =>
            split at h
            · next hfit =>
              cases h
              obtain ⟨hkd, rfl, hko⟩ := hc
              obtain ⟨v, k0, rfl, hgv, hSn⟩ := hS.cons; clear hS; have hS := hSn; clear hSn
              obtain ⟨va, k1, rfl, ⟨x, hjx, rfl⟩, hSn⟩ := hS.cons; clear hS; have hS := hSn; clear hSn
              obtain ⟨e1, hw, vs, rfl, hvs⟩ := hG.cell hj hjx
              obtain ⟨hn, hf⟩ := rk_fit_ok hG.1 hgv hfit.1
              have hr := hlk _ (rk_lk_mem hlk1)
              have hkl : k < vs.length := by rw [← hvs.len]; exact hko
              have fin : ∀ (H1 : Heap) (locs1 : List Loc), va_P D cl (ws.set j (x, .inr (o.1, vs.set k v))) H1 → va_D Ad (ws.set j (x, .inr (o.1, vs.set k v))) → va_S Ad s.heap H1 locs1 → rk_KW p l e R s m args below meth c Q (pc + 3) ls k1 H1 locs1 nc ns := fun H1 locs1 hP1 hD1 hS1 => by
                have hG1 := hG.setc (c' := .inl (o.1, o.2.set k v0)) hw hP1 hD1 hS1 ⟨vs.set k v, rfl, hvs.set hgv k⟩
                refine kk _ (List.mem_singleton.mpr rfl) vals _ H1 locs1 ls _ lc hG1 hl ?_ ?_
                · rw [rk_map_set hw]; exact hL
                · rw [rk_map_set hw]; exact hS
              obtain ⟨tf, htf, htk⟩ := Option.bind_eq_some_iff.mp ht
              rcases (show kd = 0 ∨ kd = 1 ∨ kd = 2 by omega) with rfl | rfl | rfl
              · obtain ⟨q, hq, hkN, hm⟩ := hr
                obtain ⟨c1, c2, -, tf', htf', hlenT, hT⟩ := hcl _ _ hq
                cases htf.symm.trans htf'
                obtain ⟨t1, t2⟩ := hT k t htk
                have hfin : (q.2.1 k).2.2.2 = false := by
                  rw [t2]
                  cases hb2 : t.2 with
                  | false => rfl
                  | true => exact absurd (hfit.2.mp hb2) (by decide)
                exact va_put (C := q.1) (T := q.2.1) (N := q.2.2) hx hb hts c1 _ (rk_ty hlenT hT) c2 hown hK hG.2.2.1 hG.2.2.2.1 hG.2.2.2.2.1 j hw hq k hkN (hts _ hm) (fun _ h9 => h9) hfin t1 hn hf hkl hdg fin
              · obtain ⟨q, host, hq, hkN, hm⟩ := hr
                obtain ⟨c1, c2, -, tf', htf', hlenT, hT⟩ := hcl _ _ hq
                cases htf.symm.trans htf'
                obtain ⟨t1, t2⟩ := hT k t htk
                have hfin : (q.2.1 k).2.2.2 = false := by
                  rw [t2]
                  cases hb2 : t.2 with
                  | false => rfl
                  | true => exact absurd (hfit.2.mp hb2) (by decide)
                exact va_putN (C := q.1) (T := q.2.1) (N := q.2.2) hx hb hts c1 _ (rk_ty hlenT hT) c2 hown hK hG.2.2.1 hG.2.2.2.1 hG.2.2.2.2.1 j hw hq k hkN (va_Nw.use rfl (hxw _ hm)) (fun _ h9 => h9) hfin t1 hn hf hkl hdg fin
              · obtain ⟨q, hq, hkN, hm, hdecl⟩ := hr
                obtain ⟨c1, c2, -, tf', htf', hlenT, hT⟩ := hcl _ _ hq
                cases htf.symm.trans htf'
                obtain ⟨t1, t2⟩ := hT k t htk
                have hfin : (q.2.1 k).2.2.2 = true := by rw [t2]; exact hfit.2.mpr rfl
                exact va_putF (C := q.1) (T := q.2.1) (N := q.2.2) hx hb hts c1 _ (rk_ty hlenT hT) c2 hown hK hG.2.2.1 hG.2.2.2.1 hG.2.2.2.2.1 j hw hq k hkN (hts _ hm) (fun _ h9 => h9) hfin (hini ⟨_, rk_lk_mem hlk1, rfl⟩) hdecl t1 hn hf hkl hdg fin
            · cases h
          · cases h
        · cases h
      · cases h
    · cases h
  case iaload =>
    simp [rk_len] at hlen; subst hlen
    simp only [rk_heap] at h
    split at h
    · next ix j r =>
      split at h
      · next n d ov hj =>
        split at h
        · next i hi =>
          cases h
          obtain ⟨vi, k0, rfl, hgi, hSn⟩ := hS.cons; clear hS; have hS := hSn; clear hSn
          obtain ⟨va, k1, rfl, ⟨x, hjx, rfl⟩, hSn⟩ := hS.cons; clear hS; have hS := hSn; clear hSn
          obtain ⟨e1, hw, cA, hA1, hA2, f, rfl, hf⟩ := hG.cell hj hjx
          obtain ⟨xi, rfl, hin, rfl⟩ := rk_ix_ok hG.1 hgi hi
          refine va_iald hx hb (rk_K1 hK hA1 hA2) hG.2.2.1 j 0 hw rfl hin hdg ?_
          exact kk _ (List.mem_singleton.mpr rfl) vals ws H locs ls _ lc hG hl hL ⟨rk_norm_ok hG.1 (hf _), hS⟩
        · cases h
      · cases h
    · cases h
  case baload =>
    simp [rk_len] at hlen; subst hlen
    simp only [rk_heap] at h
    split at h
    · next ix j r =>
      split at h
      · next n d ov hj =>
        split at h
        · next i hi =>
          cases h
          obtain ⟨vi, k0, rfl, hgi, hSn⟩ := hS.cons; clear hS; have hS := hSn; clear hSn
          obtain ⟨va, k1, rfl, ⟨x, hjx, rfl⟩, hSn⟩ := hS.cons; clear hS; have hS := hSn; clear hSn
          obtain ⟨e1, hw, cA, hA1, hA2, f, rfl, hf⟩ := hG.cell hj hjx
          obtain ⟨xi, rfl, hin, rfl⟩ := rk_ix_ok hG.1 hgi hi
          refine va_bald hx hb (rk_K1 hK hA1 hA2) hG.2.2.1 j 0 hw rfl hin hdg ?_
          exact kk _ (List.mem_singleton.mpr rfl) vals ws H locs ls _ lc hG hl hL ⟨rk_norm_ok hG.1 (hf _), hS⟩
        · cases h
      · cases h
    · cases h
  case laload =>
    simp [rk_len] at hlen; subst hlen
    simp only [rk_heap] at h
    split at h
    · next ix j r =>
      split at h
      · next n d ov hj =>
        split at h
        · next i hi =>
          cases h
          obtain ⟨vi, k0, rfl, hgi, hSn⟩ := hS.cons; clear hS; have hS := hSn; clear hSn
          obtain ⟨va, k1, rfl, ⟨x, hjx, rfl⟩, hSn⟩ := hS.cons; clear hS; have hS := hSn; clear hSn
          obtain ⟨e1, hw, cA, hA1, hA2, f, rfl, hf⟩ := hG.cell hj hjx
          obtain ⟨xi, rfl, hin, rfl⟩ := rk_ix_ok hG.1 hgi hi
          refine va_lald hx hb (rk_K1 hK hA1 hA2) hG.2.2.1 j 0 hw rfl hin hdg ?_
          exact kk _ (List.mem_singleton.mpr rfl) vals ws H locs ls _ lc hG hl hL ⟨hf _, hS⟩
        · cases h
      · cases h
    · cases h
  case aaload =>
    simp [rk_len] at hlen; subst hlen
    simp only [rk_heap] at h
    split at h
    · next ix j r =>
      split at h
      · next C n d ov hj =>
        split at h
        · next i hi =>
          cases h
          obtain ⟨vi, k0, rfl, hgi, hSn⟩ := hS.cons; clear hS; have hS := hSn; clear hSn
          obtain ⟨va, k1, rfl, ⟨x, hjx, rfl⟩, hSn⟩ := hS.cons; clear hS; have hS := hSn; clear hSn
          obtain ⟨e1, hw, cA, hA1, hA2, f, rfl, hf⟩ := hG.cell hj hjx
          obtain ⟨xi, rfl, hin, rfl⟩ := rk_ix_ok hG.1 hgi hi
          refine va_aldq hx hb (rk_K1 hK hA1 hA2) hG.2.2.1 j 0 hw rfl hin hdg ?_
          exact kk _ (List.mem_singleton.mpr rfl) vals ws H locs ls _ lc hG hl hL ⟨hf _, hS⟩
        · cases h
      · next t n d ov hj =>
        split at h
        · next i hi =>
          cases h
          obtain ⟨vi, k0, rfl, hgi, hSn⟩ := hS.cons; clear hS; have hS := hSn; clear hSn
          obtain ⟨va, k1, rfl, ⟨x, hjx, rfl⟩, hSn⟩ := hS.cons; clear hS; have hS := hSn; clear hSn
          obtain ⟨e1, hw, cA, hA1, hA2, f, rfl, hf⟩ := hG.cell hj hjx
          obtain ⟨xi, rfl, hin, rfl⟩ := rk_ix_ok hG.1 hgi hi
          refine va_alda hx hb (rk_K1 hK hA1 hA2) hG.2.2.1 j 0 hw rfl hin hdg ?_
          exact kk _ (List.mem_singleton.mpr rfl) vals ws H locs ls _ lc hG hl hL ⟨hf _, hS⟩
        · cases h
      · cases h
    · cases h
  case iastore =>
    simp [rk_len] at hlen; subst hlen
    simp only [rk_heap] at h
    split at h
    · next v0 ix j r =>
      split at h
      · next n d ov hj =>
        split at h
        · next i hi =>
          split at h
          · next hv =>
            cases h
            obtain ⟨v, kz, rfl, hgv, hSn⟩ := hS.cons; clear hS; have hS := hSn; clear hSn
            obtain ⟨vi, k0, rfl, hgi, hSn⟩ := hS.cons; clear hS; have hS := hSn; clear hSn
            obtain ⟨va, k1, rfl, ⟨x, hjx, rfl⟩, hSn⟩ := hS.cons; clear hS; have hS := hSn; clear hSn
            obtain ⟨e1, hw, cA, hA1, hA2, f, rfl, hf⟩ := hG.cell hj hjx
            obtain ⟨xi, rfl, hin, rfl⟩ := rk_ix_ok hG.1 hgi hi
            obtain ⟨I, hI⟩ := Option.isSome_iff_exists.mp hv
            obtain ⟨y, rfl, -, -⟩ := rk_iv_ok hG.1 hgv hI
            refine va_iast hx hb (rk_K1 hK hA1 hA2) hG.2.2.1 hG.2.2.2.1 hG.2.2.2.2.1 j 0 hw rfl hin hdg (fun H1 locs1 hP1 hD1 hS1 => ?_)
            have hG1 := hG.setc (c' := .inr (.int, n, d, rk_put d ov xi.toNatClampNeg v0)) hw hP1 hD1 hS1 ⟨cA, hA1, hA2, _, rfl, rk_look_upd hf hgv⟩
            refine kk _ (List.mem_singleton.mpr rfl) vals _ H1 locs1 ls _ lc hG1 hl ?_ ?_
            · rw [rk_map_set hw]; exact hL
            · rw [rk_map_set hw]; exact hS
          · cases h
        · cases h
      · cases h
    · cases h
  case lastore =>
    simp [rk_len] at hlen; subst hlen
    simp only [rk_heap] at h
    split at h
    · next v0 ix j r =>
      split at h
      · next n d ov hj =>
        split at h
        · next i hi =>
          split at h
          · next hv =>
            cases h
            obtain ⟨v, kz, rfl, hgv, hSn⟩ := hS.cons; clear hS; have hS := hSn; clear hSn
            obtain ⟨vi, k0, rfl, hgi, hSn⟩ := hS.cons; clear hS; have hS := hSn; clear hSn
            obtain ⟨va, k1, rfl, ⟨x, hjx, rfl⟩, hSn⟩ := hS.cons; clear hS; have hS := hSn; clear hSn
            obtain ⟨e1, hw, cA, hA1, hA2, f, rfl, hf⟩ := hG.cell hj hjx
            obtain ⟨xi, rfl, hin, rfl⟩ := rk_ix_ok hG.1 hgi hi
            obtain ⟨y, rfl⟩ := rk_isL_ok hG.1 hgv hv
            refine va_last hx hb (rk_K1 hK hA1 hA2) hG.2.2.1 hG.2.2.2.1 hG.2.2.2.2.1 j 0 hw rfl hin hdg (fun H1 locs1 hP1 hD1 hS1 => ?_)
            have hG1 := hG.setc (c' := .inr (.long, n, d, rk_put d ov xi.toNatClampNeg v0)) hw hP1 hD1 hS1 ⟨cA, hA1, hA2, _, rfl, rk_look_updL hf hgv⟩
            refine kk _ (List.mem_singleton.mpr rfl) vals _ H1 locs1 ls _ lc hG1 hl ?_ ?_
            · rw [rk_map_set hw]; exact hL
            · rw [rk_map_set hw]; exact hS
          · cases h
        · cases h
      · cases h
    · cases h
  case bastore =>
    simp [rk_len] at hlen; subst hlen
    simp only [rk_heap] at h
    split at h
    · next v0 ix j r =>
      split at h
      · next n d ov hj =>
        split at h
        · next i I hi hI =>
          split at h
          · next hv =>
            cases h
            obtain ⟨v, kz, rfl, hgv, hSn⟩ := hS.cons; clear hS; have hS := hSn; clear hSn
            obtain ⟨vi, k0, rfl, hgi, hSn⟩ := hS.cons; clear hS; have hS := hSn; clear hSn
            obtain ⟨va, k1, rfl, ⟨x, hjx, rfl⟩, hSn⟩ := hS.cons; clear hS; have hS := hSn; clear hSn
            obtain ⟨e1, hw, cA, hA1, hA2, f, rfl, hf⟩ := hG.cell hj hjx
            obtain ⟨xi, rfl, hin, rfl⟩ := rk_ix_ok hG.1 hgi hi
            obtain ⟨y, rfl, q1, q2⟩ := rk_iv_ok hG.1 hgv hI
            have hy : vp_nar .byte y = y := by
              rw [vp_nar_byte]
              apply Int32.toInt_inj.mp
              rw [Int8.toInt_toInt32, Int32.toInt_toInt8]
              exact Int.bmod_eq_of_le (by omega) (by omega)
            refine va_bast hx hb (rk_K1 hK hA1 hA2) hG.2.2.1 hG.2.2.2.1 hG.2.2.2.2.1 j 0 hw rfl hin hdg (fun H1 locs1 hP1 hD1 hS1 => ?_)
            rw [hy] at hP1 hD1
            have hG1 := hG.setc (c' := .inr (.byte, n, d, rk_put d ov xi.toNatClampNeg v0)) hw hP1 hD1 hS1 ⟨cA, hA1, hA2, _, rfl, rk_look_upd hf hgv⟩
            refine kk _ (List.mem_singleton.mpr rfl) vals _ H1 locs1 ls _ lc hG1 hl ?_ ?_
            · rw [rk_map_set hw]; exact hL
            · rw [rk_map_set hw]; exact hS
          · cases h
        · cases h
      · cases h
    · cases h
  case aastore =>
    simp [rk_len] at hlen; subst hlen
    simp only [rk_heap] at h
    split at h
    · next y ix j r =>
      split at h
      · next C n d ov o hj hy =>
        split at h
        · next i hi =>
          split at h
          · next hc =>
            cases h
            obtain ⟨v, kz, rfl, hgv, hSn⟩ := hS.cons; clear hS; have hS := hSn; clear hSn
            obtain ⟨xv, hyx, rfl⟩ := id hgv
            obtain ⟨vi, k0, rfl, hgi, hSn⟩ := hS.cons; clear hS; have hS := hSn; clear hSn
            obtain ⟨va, k1, rfl, ⟨x, hjx, rfl⟩, hSn⟩ := hS.cons; clear hS; have hS := hSn; clear hSn
            obtain ⟨e1, hw, cA, hA1, hA2, f, rfl, hf⟩ := hG.cell hj hjx
            obtain ⟨e2, hw2, vs, rfl, hvs⟩ := hG.cell hy hyx
            obtain ⟨xi, rfl, hin, rfl⟩ := rk_ix_ok hG.1 hgi hi
            obtain ⟨r2, hr2, -⟩ := hG.2.2.1 y _ hw2
            have hrc : r2.1 = C := Option.some.inj ((hcl _ _ hr2).2.2.1.symm.trans hc)
            subst hrc
            refine va_astq hx hb (rk_K1 hK hA1 hA2) hG.2.2.1 hG.2.2.2.1 hG.2.2.2.2.1 j 0 y o.1 hw rfl hw2 hr2 hin hdg (fun H1 locs1 hP1 hD1 hS1 => ?_)
            have hup : ∀ jj, rk_g vals (ws.map Prod.fst) (rk_look d ((xi.toNatClampNeg, .inr (.inl y)) :: ov) jj) (va_rf (va_up f xi.toNatClampNeg (some xv) jj)) := by
              intro jj
              unfold rk_look va_up
              dsimp only
              by_cases e : xi.toNatClampNeg = jj
              · rw [if_pos e, if_pos e.symm]
                exact hgv
              · rw [if_neg e, if_neg (Ne.symm e)]
                exact hf jj
            have hG1 := hG.setc (c' := .inr (.object r2.1, n, d, (xi.toNatClampNeg, .inr (.inl y)) :: ov)) hw hP1 hD1 hS1 ⟨cA, hA1, hA2, _, rfl, hup⟩
            refine kk _ (List.mem_singleton.mpr rfl) vals _ H1 locs1 ls _ lc hG1 hl ?_ ?_
            · rw [rk_map_set hw]; exact hL
            · rw [rk_map_set hw]; exact hS
          · cases h
        · cases h
      · cases h
    · cases h
  case arraylength =>
    simp [rk_len] at hlen; subst hlen
    simp only [rk_heap] at h
    split at h
    · next j r =>
      split at h
      · next q hj =>
        cases h
        obtain ⟨va, k1, rfl, ⟨x, hjx, rfl⟩, hSn⟩ := hS.cons; clear hS; have hS := hSn; clear hSn
        obtain ⟨e1, hw, cA, hA1, hA2, harr⟩ := hG.cell hj hjx
        have he : ∃ z : vp_A, e1 = .inl (cA, z) ∧ z.1 = q.2.1 := by
          unfold rk_arr at harr
          split at harr
          all_goals first
            | exact harr.elim
            | (obtain ⟨f, rfl, -⟩ := harr
               exact ⟨_, rfl, rfl⟩)
        obtain ⟨z, rfl, hz⟩ := he
        refine va_alen hx hb (rk_K1 hK hA1 hA2) hG.2.2.1 j 0 hw rfl (v := Int32.ofNat q.2.1) (by rw [hz]) hdg ?_
        exact kk _ (List.mem_singleton.mpr rfl) vals ws H locs ls _ lc hG hl hL ⟨rfl, hS⟩
      · cases h
    · cases h
  case newarray at_ =>
    simp [rk_len] at hlen; subst hlen
    simp only [rk_heap] at h
    split at h
    · next x r =>
      split at h
      · next hc =>
        obtain ⟨va, k1, rfl, hgx, hSn⟩ := hS.cons; clear hS; have hS := hSn; clear hSn
        cases hgx
        have hn : ¬ x < 0 := by rw [Int32.lt_iff_toInt_lt, Int32.toInt_zero]; omega
        have hsm : x.toNatClampNeg ≤ 100000 := by have : x.toNatClampNeg = x.toInt.toNat := rfl; omega
        split at h
        · cases h
          obtain ⟨hc1, hc2⟩ := hroom _ (List.mem_singleton.mpr rfl)
          refine va_newa (atype := .int) (ty := .int) (a0 := (x.toNatClampNeg, .inl (fun _ => 0))) hx hb (hts _ hac.1) rfl hK hG.2.2.1 hG.2.2.2.1 hG.2.2.2.2.1 hA (fun _ => rfl) hn rfl (by simp only [componentBytes]; omega) hc1 hc2 hdg (fun q cA H1 hK1 hP1 hD1 hS1 => ?_)
          have hk := hK1.2 0 (cA, .int) rfl
          have hG1 := hG.newc (c' := .inr (.int, x.toNatClampNeg, .inl (.int 0), [])) hP1 hD1 hS1 ⟨cA, hk.1, hk.2, _, rfl, fun _ => rfl⟩
          refine kk _ (List.mem_singleton.mpr rfl) vals _ H1 locs ls _ lc hG1 hl ?_ ?_
          · rw [rk_mapnew]; exact rk_A2.mono (fun _ _ h => ⟨h.1, h.2.grow ⟨[], by simp⟩ ⟨[q], rfl⟩⟩) hL
          · rw [rk_mapnew]; exact ⟨⟨q, by rw [hG.2.1.len]; simp, rfl⟩, rk_A2.mono (fun _ _ h => h.grow ⟨[], by simp⟩ ⟨[q], rfl⟩) hS⟩
        · cases h
          obtain ⟨hc1, hc2⟩ := hroom _ (List.mem_singleton.mpr rfl)
          refine va_newa (atype := .byte) (ty := .byte) (a0 := (x.toNatClampNeg, .inl (fun _ => 0))) hx hb (hts _ hac.2.1) rfl hK hG.2.2.1 hG.2.2.2.1 hG.2.2.2.2.1 hA (fun _ => rfl) hn rfl (by simp only [componentBytes]; omega) hc1 hc2 hdg (fun q cA H1 hK1 hP1 hD1 hS1 => ?_)
          have hk := hK1.2 0 (cA, .byte) rfl
          have hG1 := hG.newc (c' := .inr (.byte, x.toNatClampNeg, .inl (.int 0), [])) hP1 hD1 hS1 ⟨cA, hk.1, hk.2, _, rfl, fun _ => rfl⟩
          refine kk _ (List.mem_singleton.mpr rfl) vals _ H1 locs ls _ lc hG1 hl ?_ ?_
          · rw [rk_mapnew]; exact rk_A2.mono (fun _ _ h => ⟨h.1, h.2.grow ⟨[], by simp⟩ ⟨[q], rfl⟩⟩) hL
          · rw [rk_mapnew]; exact ⟨⟨q, by rw [hG.2.1.len]; simp, rfl⟩, rk_A2.mono (fun _ _ h => h.grow ⟨[], by simp⟩ ⟨[q], rfl⟩) hS⟩
        · cases h
          obtain ⟨hc1, hc2⟩ := hroom _ (List.mem_singleton.mpr rfl)
          refine va_newa (atype := .long) (ty := .long) (a0 := (x.toNatClampNeg, .inr (.inl (fun _ => 0)))) hx hb (hts _ hac.2.2) rfl hK hG.2.2.1 hG.2.2.2.1 hG.2.2.2.2.1 hA (fun _ => rfl) hn rfl (by simp only [componentBytes]; omega) hc1 hc2 hdg (fun q cA H1 hK1 hP1 hD1 hS1 => ?_)
          have hk := hK1.2 0 (cA, .long) rfl
          have hG1 := hG.newc (c' := .inr (.long, x.toNatClampNeg, .inl (.long 0), [])) hP1 hD1 hS1 ⟨cA, hk.1, hk.2, _, rfl, fun _ => rfl⟩
          refine kk _ (List.mem_singleton.mpr rfl) vals _ H1 locs ls _ lc hG1 hl ?_ ?_
          · rw [rk_mapnew]; exact rk_A2.mono (fun _ _ h => ⟨h.1, h.2.grow ⟨[], by simp⟩ ⟨[q], rfl⟩⟩) hL
          · rw [rk_mapnew]; exact ⟨⟨q, by rw [hG.2.1.len]; simp, rfl⟩, rk_A2.mono (fun _ _ h => h.grow ⟨[], by simp⟩ ⟨[q], rfl⟩) hS⟩
        · cases h
      · cases h
    · cases h
  case anewarray idx =>
    simp [rk_len] at hlen; subst hlen
    simp only [rk_heap] at h
    split at h
    · next x r =>
      split at h
      · next hc =>
        obtain ⟨va, k1, rfl, hgx, hSn⟩ := hS.cons; clear hS; have hS := hSn; clear hSn
        cases hgx
        have hn : ¬ x < 0 := by rw [Int32.lt_iff_toInt_lt, Int32.toInt_zero]; omega
        have hsm : x.toNatClampNeg ≤ 100000 := by have : x.toNatClampNeg = x.toInt.toNat := rfl; omega
        split at h
        · next ci z hlk1 =>
          split at h
          · next C hC =>
            cases h
            obtain ⟨q0, hq0, hm1, hm2⟩ := hlk _ (List.mem_filter.mp (rk_lk_mem hlk1)).1
            have hqc : q0.1 = C := Option.some.inj ((hcl _ _ hq0).2.2.1.symm.trans hC)
            subst hqc
            obtain ⟨hc1, hc2⟩ := hroom _ (List.mem_singleton.mpr rfl)
            refine va_newq hx hb hown (hts _ hm1) (hxw _ hm2) hK hG.2.2.1 hG.2.2.2.1 hG.2.2.2.2.1 hA hn rfl (by omega) hc1 hc2 hdg (fun q cA H1 hK1 hP1 hD1 hS1 => ?_)
            have hk := hK1.2 0 (cA, .object q0.1) rfl
            have hG1 := hG.newc (c' := .inr (.object q0.1, x.toNatClampNeg, .inl .null, [])) hP1 hD1 hS1 ⟨cA, hk.1, hk.2, _, rfl, fun _ => rfl⟩
            refine kk _ (List.mem_singleton.mpr rfl) vals _ H1 locs ls _ lc hG1 hl ?_ ?_
            · rw [rk_mapnew]; exact rk_A2.mono (fun _ _ h => ⟨h.1, h.2.grow ⟨[], by simp⟩ ⟨[q], rfl⟩⟩) hL
            · rw [rk_mapnew]; exact ⟨⟨q, by rw [hG.2.1.len]; simp, rfl⟩, rk_A2.mono (fun _ _ h => h.grow ⟨[], by simp⟩ ⟨[q], rfl⟩) hS⟩
          · cases h
        · cases h
      · cases h
    · cases h
  case multianewarray idx dims =>
    simp [rk_len] at hlen; subst hlen
    simp only [rk_heap] at h
    split at h
    · next y x r =>
      split at h
      · next hc =>
        obtain ⟨vy, k0, rfl, hgy, hSn⟩ := hS.cons; clear hS; have hS := hSn; clear hSn
        cases hgy
        obtain ⟨va, k1, rfl, hgx, hSn⟩ := hS.cons; clear hS; have hS := hSn; clear hSn
        cases hgx
        have hn : ¬ x < 0 := by rw [Int32.lt_iff_toInt_lt, Int32.toInt_zero]; omega
        have hk : ¬ y < 0 := by rw [Int32.lt_iff_toInt_lt, Int32.toInt_zero]; omega
        have hsm : x.toNatClampNeg ≤ 1000 := by have : x.toNatClampNeg = x.toInt.toNat := rfl; omega
        have hsk : y.toNatClampNeg ≤ 1000 := by have : y.toNatClampNeg = y.toInt.toNat := rfl; omega
        split at h
        · next z1 z2 hlk1 =>
          cases h
          obtain ⟨hm1, hm2⟩ := hlk _ (rk_lk_mem hlk1)
          have hc12 := hroom _ (List.mem_singleton.mpr rfl)
          dsimp only at hc12
          obtain ⟨hd2, -⟩ := hc
          subst hd2
          obtain ⟨cy, ky, comp, hfind, hkc, hkind⟩ := Cond.arrayClass_spec (hts _ hac.2.2)
          have hAy : ArrOfT s cy .long := fun n z => ⟨fun k h => (by cases h), ky, hkc, comp, hkind⟩
          have e0 : va_pl ([] : List Nat) (fun _ => (.inl (cy, 0, .inl (fun _ => 0)) : va_E)) = [] := rfl
          refine va_mna (X := ws) (L := []) (f := fun _ => .inl (cy, 0, .inl (fun _ => 0))) (ty := .long) (cy := cy) (tys := []) (z := (y.toNatClampNeg, .inr (.inl (fun _ => 0)))) hx hb hown (hts _ hm1) (hxw _ hm2) (hts _ hac.2.2) hfind hK (by rw [e0, List.append_nil]; exact hG.2.2.1) (by rw [e0, List.append_nil]; exact hG.2.2.2.1) hG.2.2.2.2.1 hA hn hk rfl rfl (by omega) (by simp only [componentBytes]; omega) (by omega) rfl rfl (by omega) (by omega) (fun cz => arrV_new cz _ _) hdg (fun q r0 cA H1 hinj hrL hK1 hP1 hD1 hS1 => ?_)
          have hk1 := hK1.2 0 (cA, .array .long) rfl
          rw [← vr_rows (L := []) (fun a _ h => by cases h), e0, List.nil_append] at hP1 hD1
          obtain ⟨lr, hlr⟩ : ∃ lr, lr = List.map r0 (List.range x.toNatClampNeg) := ⟨_, rfl⟩
          rw [← hlr] at hP1 hD1
          have hll : lr.length = x.toNatClampNeg := by rw [hlr]; simp
          have hads : ((ws ++ [(q, (.inl (cA, x.toNatClampNeg, .inr (.inr (.inr (.inr (fun i => if i < x.toNatClampNeg then some (r0 i) else none))))) : va_E))]) ++ lr.map (fun a => (a, (.inl (cy, (y.toNatClampNeg, .inr (.inl (fun _ => 0)))) : va_E)))).map Prod.fst = ws.map Prod.fst ++ (q :: lr) := by
            rw [List.map_append, List.map_append, List.map_map]
            simp [Function.comp_def]
          have hwl : hp.length = (ws.map Prod.fst).length := by rw [hG.2.1.len]; simp
          have hG1 : rk_G s D cl Ad vals0 ads0 vals ((ws ++ [(q, (.inl (cA, x.toNatClampNeg, .inr (.inr (.inr (.inr (fun i => if i < x.toNatClampNeg then some (r0 i) else none))))) : va_E))]) ++ lr.map (fun a => (a, (.inl (cy, (y.toNatClampNeg, .inr (.inl (fun _ => 0)))) : va_E)))) H1 locs env (hp ++ ([.inr (.array .long, x.toNatClampNeg, .inl .null, rk_rows (hp.length + 1) x.toNatClampNeg)] ++ List.replicate x.toNatClampNeg (.inr (.long, y.toNatClampNeg, .inl (.long 0), [])))) := by
            refine ⟨hG.1, ?_, hP1, hD1, hS1, hG.2.2.2.2.2.1, ?_⟩
            · rw [hads, List.append_assoc ws]
              have g1 : rk_A2 (fun (c : rk_H) (q' : Nat × va_E) => rk_c s vals (ws.map Prod.fst ++ (q :: lr)) c q'.2) (List.replicate x.toNatClampNeg (.inr (.long, y.toNatClampNeg, .inl (.long 0), []))) (lr.map (fun a => (a, (.inl (cy, (y.toNatClampNeg, .inr (.inl (fun _ => 0)))) : va_E)))) := by
                rw [← hll]
                exact rk_A2.rep (fun a => ⟨cy, hAy, hfind, _, rfl, fun _ => rfl⟩) lr
              have g2 : rk_c s vals (ws.map Prod.fst ++ (q :: lr)) (.inr (.array .long, x.toNatClampNeg, .inl .null, rk_rows (hp.length + 1) x.toNatClampNeg)) (.inl (cA, x.toNatClampNeg, .inr (.inr (.inr (.inr (fun i => if i < x.toNatClampNeg then some (r0 i) else none)))))) := by
                refine ⟨cA, hk1.1, hk1.2, _, rfl, fun j => ?_⟩
                show rk_g vals (ws.map Prod.fst ++ (q :: lr)) (rk_look (.inl .null) (rk_rows (hp.length + 1) x.toNatClampNeg) j) (va_rf (if j < x.toNatClampNeg then some (r0 j) else none))
                rw [rk_rows_look]
                by_cases hj : j < x.toNatClampNeg
                · rw [if_pos hj, if_pos hj]
                  refine ⟨r0 j, ?_, rfl⟩
                  rw [List.getElem?_append_right (by omega), show hp.length + 1 + j - (ws.map Prod.fst).length = j + 1 by omega, List.getElem?_cons_succ, hlr, List.getElem?_map, List.getElem?_range hj]
                  rfl
                · rw [if_neg hj, if_neg hj]
                  rfl
              have g3 : rk_A2 (fun (c : rk_H) (q' : Nat × va_E) => rk_c s vals (ws.map Prod.fst ++ (q :: lr)) c q'.2) hp ws := hG.2.1.mono (fun _ _ h => h.grow ⟨[], by simp⟩ ⟨q :: lr, rfl⟩)
              have g4 : rk_A2 (fun (c : rk_H) (q' : Nat × va_E) => rk_c s vals (ws.map Prod.fst ++ (q :: lr)) c q'.2) [.inr (.array .long, x.toNatClampNeg, .inl .null, rk_rows (hp.length + 1) x.toNatClampNeg)] [(q, (.inl (cA, x.toNatClampNeg, .inr (.inr (.inr (.inr (fun i => if i < x.toNatClampNeg then some (r0 i) else none))))) : va_E))] := ⟨g2, trivial⟩
              exact rk_A2.app (rk_A2.app g1 g4) g3
            · obtain ⟨k7, h7⟩ := hG.2.2.2.2.2.2
              exact ⟨k7 ++ (q :: lr), by rw [hads, h7, List.append_assoc]⟩
          refine kk _ (List.mem_singleton.mpr rfl) vals _ H1 locs ls _ lc hG1 hl ?_ ?_
          · rw [hads]; exact rk_A2.mono (fun _ _ h => ⟨h.1, h.2.grow ⟨[], by simp⟩ ⟨q :: lr, rfl⟩⟩) hL
          · rw [hads]; exact ⟨⟨q, by rw [hwl]; simp, rfl⟩, rk_A2.mono (fun _ _ h => h.grow ⟨[], by simp⟩ ⟨q :: lr, rfl⟩) hS⟩
        · cases h
      · cases h
    · cases h
  case new idx =>
    simp [rk_len] at hlen; subst hlen
    simp only [rk_heap] at h
    split at h
    · next ci z hlk1 =>
      split at h
      · next tf htf =>
        cases h
        obtain ⟨q0, hq0, hm1, hm2, hm3⟩ := hlk _ (rk_lk_mem hlk1)
        obtain ⟨c1, c2, -, tf', htf', hlenT, hT⟩ := hcl _ _ hq0
        cases htf.symm.trans htf'
        obtain ⟨hc1, hc2⟩ := hroom _ (List.mem_singleton.mpr rfl)
        dsimp only at hc1 hc2
        rw [hlenT] at hc2
        refine va_new (ci := ci) (C := q0.1) (T := q0.2.1) (N := q0.2.2) (fs := tf.map (fun t => defaultValue t.1)) hx hb hts c1 _ (rk_ty hlenT hT) hown (hts _ hm1) (hts _ hm2) (hts _ hm3) hK hG.2.2.1 hG.2.2.2.1 hG.2.2.2.2.1 hA hq0 ?_ hc1 hc2 hdg (fun q H1 hP1 hD1 hS1 => ?_)
        · intro j hj
          have hj' : j < tf.length := by omega
          have e : tf[j]? = some tf[j] := List.getElem?_eq_getElem hj'
          simp [vp_V, e]
        · have hG1 := hG.newc (c' := .inl (ci, tf.map (fun t => .inl (defaultValue t.1)))) hP1 hD1 hS1 ⟨_, rfl, rk_defs tf⟩
          rw [← hlenT]
          refine kk _ (List.mem_singleton.mpr rfl) vals _ H1 locs ls _ lc hG1 hl ?_ ?_
          · rw [rk_mapnew]; exact rk_A2.mono (fun _ _ h => ⟨h.1, h.2.grow ⟨[], by simp⟩ ⟨[q], rfl⟩⟩) hL
          · rw [rk_mapnew]; exact ⟨⟨q, by rw [hG.2.1.len]; simp, rfl⟩, rk_A2.mono (fun _ _ h => h.grow ⟨[], by simp⟩ ⟨[q], rfl⟩) hS⟩
      · cases h
    · cases h
  case ldc idx =>
    simp [rk_len] at hlen; subst hlen
    simp only [rk_heap] at h
    split at h
    · next x hx1 =>
      cases h
      exact lv_ldc hx hb hown (hts _ ((hcs _ (rk_cst_mem hx1)).1 x rfl)) hdg (kk _ (List.mem_singleton.mpr rfl) vals ws H locs ls _ lc hG hl hL ⟨rfl, hS⟩)
    · cases h
  case ldc_w idx =>
    simp [rk_len] at hlen; subst hlen
    simp only [rk_heap] at h
    split at h
    · next x hx1 =>
      cases h
      exact lv_ldcw hx hb hown (hts _ ((hcs _ (rk_cst_mem hx1)).1 x rfl)) hdg (kk _ (List.mem_singleton.mpr rfl) vals ws H locs ls _ lc hG hl hL ⟨rfl, hS⟩)
    · cases h
  case ldc2_w idx =>
    simp [rk_len] at hlen; subst hlen
    simp only [rk_heap] at h
    split at h
    · next x hx1 =>
      cases h
      exact lv_ldc2 hx hb hown (hts _ ((hcs _ (rk_cst_mem hx1)).2 x rfl)) hdg (kk _ (List.mem_singleton.mpr rfl) vals ws H locs ls _ lc hG hl hL ⟨rfl, hS⟩)
    · cases h
  all_goals (simp [rk_heap] at h)
end RKQ
end
section
/-! ===== rk: calls, and a run to the end ===== -/
/-- most cells, most slots, the ends -/
abbrev rk_O : Type := Nat × Nat × List rk_X
/-- a method: its instructions, its locals, its links, its literals, what it returns, the number of its class (instance methods) -/
abbrev rk_M2 : Type := List (Nat × Instr × Nat) × Nat × List (Nat × Nat × Nat × Nat) × List (Nat × Value) × Option FieldType × Nat
def rk_pop : Nat → List rk_V → List rk_V → Option (List rk_V × List rk_V)
  | 0, acc, sk => some (acc, sk)
  | n + 1, acc, a :: sk => rk_pop n (a :: acc) sk
  | _ + 1, _, [] => none
def rk_fetch : List (Nat × Instr × Nat) → Nat → Option (Instr × Nat)
  | [], _ => none
  | q :: r, pc => if q.1 = pc then some q.2 else rk_fetch r pc
def rk_sum (env : List rk_T) : List rk_V → Nat
  | [] => 0
  | a :: r => rk_cat env a + rk_sum env r
def rk_after (o : Option rk_O) (pc : Nat) (lo : List (Nat × rk_V)) (r : List rk_V) (nc ns : Nat) : rk_R := match o with
  | some o => if o.2.2.isEmpty then none else some (o.2.2.map (fun x => (pc + 3, (lo, x.1.toList ++ r, x.2.1, x.2.2.1, nc + o.1, ns + o.2.1))))
  | none => none
/-- a row is copied: n places of the one, from sp on, come to the other's, from dp on -/
def rk_cpy (d : rk_V) (ov : List (Nat × rk_V)) (sp dp : Nat) : Nat → List (Nat × rk_V) → List (Nat × rk_V)
  | 0, acc => acc
  | n + 1, acc => (dp + n, rk_look d ov (sp + n)) :: rk_cpy d ov sp dp n acc
def rk_call (mci : List Nat) (call : Nat → List rk_V → List rk_T → List rk_H → Option rk_O) (lk : List (Nat × Nat × Nat × Nat)) (pc : Nat) (ins : Instr) (st : rk_S) : rk_R :=
  let lo := st.1; let sk := st.2.1; let env := st.2.2.1; let hp := st.2.2.2.1; let nc := st.2.2.2.2.1; let ns := st.2.2.2.2.2
  match ins with
  | .invokevirtual idx => match rk_lk lk idx with
    | some (kd, f, n) => if kd = 5 ∨ kd = 6 then (match rk_pop n [] sk with
      | some (as, .inr (.inl j) :: r) => (match hp[j]? with
        | some (.inl o) => if mci[f]? = some o.1 ∧ rk_sum env r ≤ 8 then rk_after (call f (.inr (.inl j) :: as) env hp) pc lo r nc ns else none
        | _ => none)
      | _ => none) else none
    | none => none
  | .invokestatic idx => match rk_lk lk idx with
    | some (kd, f, n) => if kd = 7 ∨ kd = 8 then (match rk_pop n [] sk with
      | some (as, r) => if rk_sum env r ≤ 8 then rk_after (call f as env hp) pc lo r nc ns else none
      | none => none) else none
    | none => none
  | .invokespecial idx => match rk_lk lk idx with
    | some (kd, f, n) => if kd = 9 ∨ kd = 10 then (match rk_pop n [] sk with
      | some (as, .inr (.inl j) :: r) => if rk_sum env r ≤ 8 then rk_after (call f (.inr (.inl j) :: as) env hp) pc lo r nc ns else none
      | _ => none) else if kd = 11 then (match sk with
      | .inr (.inl _) :: r => if rk_sum env r ≤ 8 then some [(pc + 3, (lo, r, env, hp, nc, ns))] else none
      | _ => none) else none
    | none => none
  | _ => none
/-! ===== rk: System.arraycopy ===== -/
/-- a number that is one, 0 at least -/
def rk_num (env : List rk_T) (a : rk_V) : Option Nat := match rk_iv env a with
  | some I => if I.1 = I.2 ∧ 0 ≤ I.1 then some I.1.toNat else none
  | none => none
def rk_copy (lk : List (Nat × Nat × Nat × Nat)) (pc : Nat) (ins : Instr) (st : rk_S) : rk_R :=
  let lo := st.1; let sk := st.2.1; let env := st.2.2.1; let hp := st.2.2.2.1; let nc := st.2.2.2.2.1; let ns := st.2.2.2.2.2
  match ins with
  | .invokestatic idx => match rk_lk lk idx with
    | some (12, _, _) => (match sk with
      | an :: adp :: .inr (.inl j1) :: asp :: .inr (.inl j0) :: r => if rk_sum env r ≤ 8 then (match rk_num env an, rk_num env adp, rk_num env asp, hp[j0]?, hp[j1]? with
        | some n, some dp, some sp, some (.inr (.int, n0, d0, o0)), some (.inr (.int, n1, d1, o1)) => if sp + n ≤ n0 ∧ dp + n ≤ n1 then some [(pc + 3, (lo, r, env, hp.set j1 (.inr (.int, n1, d1, rk_cpy d0 o0 sp dp n o1)), nc, ns))] else none
        | some n, some dp, some sp, some (.inr (.long, n0, d0, o0)), some (.inr (.long, n1, d1, o1)) => if sp + n ≤ n0 ∧ dp + n ≤ n1 then some [(pc + 3, (lo, r, env, hp.set j1 (.inr (.long, n1, d1, rk_cpy d0 o0 sp dp n o1)), nc, ns))] else none
        | _, _, _, _, _ => none) else none
      | _ => none)
    | _ => none
  | _ => none
def rk_comb (f : Nat × rk_S → Option rk_O) : List (Nat × rk_S) → Option rk_O
  | [] => some (0, 0, [])
  | q :: r => match f q, rk_comb f r with
    | some a, some b => some (max a.1 b.1, max a.2.1 b.2.1, a.2.2 ++ b.2.2)
    | _, _ => none
/-- a number of few values is each of them, one by one -/
def rk_each (a : rk_V) (pc : Nat) (lo : List (Nat × rk_V)) (sk : List rk_V) (env : List rk_T) (hp : List rk_H) (nc ns : Nat) : Int → Nat → List (Nat × rk_S)
  | _, 0 => []
  | v, n + 1 => rk_opt (rk_cut env a v v) pc lo sk hp nc ns ++ rk_each a pc lo sk env hp nc ns (v + 1) n
def rk_which (ins : Instr) (sk : List rk_V) : Option rk_V := match ins with
  | .iaload | .baload | .laload | .aaload | .i2l => sk[0]?
  | .iastore | .bastore | .lastore | .aastore => sk[1]?
  | _ => none
def rk_split (pc : Nat) (ins : Instr) (st : rk_S) : rk_R := match rk_which ins st.2.1 with
  | some a => match rk_iv st.2.2.1 a with
    | some I => if I.1 < I.2 ∧ I.2 - I.1 ≤ 64 then some (rk_each a pc st.1 st.2.1 st.2.2.1 st.2.2.2.1 st.2.2.2.2.1 st.2.2.2.2.2 I.1 (I.2 - I.1 + 1).toNat) else none
    | none => none
  | none => none
/-- Math.max, min, abs -/
def rk_imax (I J : Int × Int) : Int × Int := (max I.1 J.1, max I.2 J.2)
def rk_imin (I J : Int × Int) : Int × Int := (min I.1 J.1, min I.2 J.2)
def rk_math (lk : List (Nat × Nat × Nat × Nat)) (pc : Nat) (ins : Instr) (st : rk_S) : rk_R :=
  let lo := st.1; let sk := st.2.1; let env := st.2.2.1; let hp := st.2.2.2.1; let nc := st.2.2.2.2.1; let ns := st.2.2.2.2.2
  match ins with
  | .invokestatic idx => match rk_lk lk idx with
    | some (14, _, _) => (match sk with
      | b :: a :: r => if rk_sum env r ≤ 8 then rk_op2 (rk_bin (fun x y => if x < y then y else x) rk_imax env a b) (pc + 3) lo r hp nc ns else none
      | _ => none)
    | some (15, _, _) => (match sk with
      | b :: a :: r => if rk_sum env r ≤ 8 then rk_op2 (rk_bin (fun x y => if y < x then y else x) rk_imin env a b) (pc + 3) lo r hp nc ns else none
      | _ => none)
    | some (16, _, _) => (match sk with
      | b :: a :: r => if rk_sum env r ≤ 8 then rk_op2 (rk_lbin (fun x y => if y < x then x else y) env a b) (pc + 3) lo r hp nc ns else none
      | _ => none)
    | some (17, _, _) => (match sk with
      | a :: r => if rk_sum env r ≤ 8 then rk_op2 (rk_un (fun x => if 0 ≤ x then x else 0 - x) rk_full env a) (pc + 3) lo r hp nc ns else none
      | _ => none)
    | _ => none
  | _ => none
/-- ahead of a long difference: a wide symbol of few values is each of them, of one it is that number -/
def rk_pre0 (pc : Nat) (ins : Instr) (st : rk_S) : rk_R := match ins with
  | .lsub => match st.2.1 with
    | .inl (.long y) :: .inr (.inr (.inr k)) :: r => match rk_iv st.2.2.1 (.inr (.inr (.inl k))) with
      | some I => if I.1 = I.2 then some [(pc, (st.1, .inl (.long y) :: .inl (.long (Int32.ofInt I.1).toInt64) :: r, st.2.2))] else if I.1 < I.2 ∧ I.2 - I.1 ≤ 64 then some (rk_each (.inr (.inr (.inl k))) pc st.1 st.2.1 st.2.2.1 st.2.2.2.1 st.2.2.2.2.1 st.2.2.2.2.2 I.1 (I.2 - I.1 + 1).toNat) else none
      | none => none
    | _ => none
  | _ => none
/-- what else a frame may do -/
abbrev rk_Ext : Type := Nat → Instr → rk_S → rk_R
def rk_step (fty : rk_F) (cln : List String) (mci : List Nat) (call : Nat → List rk_V → List rk_T → List rk_H → Option rk_O) (ext : rk_Ext) (M : rk_M2) (pc : Nat) (ins : Instr) (st : rk_S) : rk_R :=
  match ext pc ins st with
  | some r => some r
  | none => match rk_pre0 pc ins st with
  | some r => some r
  | none => match rk_pure M.2.1 pc ins st with
  | some r => some r
  | none => match rk_pure2 pc ins st with
    | some r => some r
    | none => match rk_heap fty cln M.2.2.1 M.2.2.2.1 pc ins st with
      | some r => some r
      | none => match rk_call mci call M.2.2.1 pc ins st with
        | some r => some r
        | none => match rk_copy M.2.2.1 pc ins st with
          | some r => some r
          | none => match rk_split pc ins st with
            | some r => some r
            | none => rk_math M.2.2.1 pc ins st
/-- may a value be returned? -/
def rk_rok (env : List rk_T) (ret : Option FieldType) (a : rk_V) : Bool := match ret with
  | some .int => (rk_iv env a).isSome
  | some .boolean => rk_fit env .boolean a
  | some .long => rk_isL env a
  | _ => false
/-- an end, if the instruction is one -/
def rk_end (ret : Option FieldType) (ins : Instr) (st : rk_S) : Option (Option rk_X) := match ins with
  | .return_ => match st.2.1, ret with
    | [], none => some (some (none, st.2.2.1, st.2.2.2.1, st.2.2.2.2.1, st.2.2.2.2.2))
    | _, _ => some none
  | .ireturn => match st.2.1 with
    | [a] => if rk_rok st.2.2.1 ret a ∧ ¬ ret = some .long then some (some (some a, st.2.2.1, st.2.2.2.1, st.2.2.2.2.1, st.2.2.2.2.2)) else some none
    | _ => some none
  | .lreturn => match st.2.1 with
    | [a] => if rk_rok st.2.2.1 ret a ∧ ret = some .long then some (some (some a, st.2.2.1, st.2.2.2.1, st.2.2.2.2.1, st.2.2.2.2.2)) else some none
    | _ => some none
  | _ => none
def rk_loop (fty : rk_F) (cln : List String) (mci : List Nat) (call : Nat → List rk_V → List rk_T → List rk_H → Option rk_O) (ext : rk_Ext) (M : rk_M2) : Nat → Nat × rk_S → Option rk_O
  | 0, _ => none
  | n + 1, q => match rk_fetch M.1 q.1 with
    | none => none
    | some il => if rk_len il.1 il.2 = true then (match rk_end M.2.2.2.2.1 il.1 q.2 with
      | some (some x) => some (q.2.2.2.2.2.1, q.2.2.2.2.2.2, [x])
      | some none => none
      | none => (match rk_step fty cln mci call ext M q.1 il.1 q.2 with
        | some succ => (match rk_comb (rk_loop fty cln mci call ext M n) succ with
          | some o => some (max q.2.2.2.2.2.1 o.1, max q.2.2.2.2.2.2 o.2.1, o.2.2)
          | none => none)
        | none => none)) else none
/-- the locals of a method's start -/
def rk_args (env : List rk_T) : Nat → List rk_V → List (Nat × rk_V)
  | _, [] => []
  | i, a :: r => (i, a) :: rk_args env (i + rk_cat env a) r
def rk_mpc (g : rk_V → rk_V) (c : rk_H) : rk_H := match c with
  | .inl o => .inl (o.1, o.2.map g)
  | .inr q => .inr (q.1, q.2.1, g q.2.2.1, q.2.2.2.map (fun z => (z.1, g z.2)))
def rk_alc (P : rk_V → Bool) (c : rk_H) : Bool := match c with
  | .inl o => o.2.all P
  | .inr q => P q.2.2.1 && q.2.2.2.all (fun z => P z.2)
def rk_up (n : Nat) (a : rk_V) : rk_V := match a with
  | .inr (.inl j) => .inr (.inl (j + n))
  | a => a
def rk_dn (n : Nat) (a : rk_V) : rk_V := match a with
  | .inr (.inl j) => .inr (.inl (j - n))
  | a => a
def rk_ge (n : Nat) (a : rk_V) : Bool := match a with
  | .inr (.inl j) => decide (n ≤ j)
  | _ => true
def rk_lt (n : Nat) (a : rk_V) : Bool := match a with
  | .inr (.inl j) => decide (j < n)
  | _ => true
def rk_nro (o : Option rk_V) : Bool := match o with
  | some (.inr (.inl _)) => false
  | _ => true
/-- the part from n on -/
def rk_suf (call : Nat → List rk_V → List rk_T → List rk_H → Option rk_O) (n f : Nat) (as : List rk_V) (env : List rk_T) (hp : List rk_H) : Option rk_O :=
  if n ≤ hp.length ∧ as.all (rk_ge n) = true ∧ (hp.drop n).all (rk_alc (rk_ge n)) = true then (match call f (as.map (rk_dn n)) env ((hp.drop n).map (rk_mpc (rk_dn n))) with
    | some o => if o.2.2.all (fun x => rk_nro x.1) = true then some (o.1, o.2.1, o.2.2.map (fun x => (x.1, x.2.1, hp.take n ++ x.2.2.1.map (rk_mpc (rk_up n)), x.2.2.2))) else none
    | none => none) else none
/-- the part below n -/
def rk_pfx (call : Nat → List rk_V → List rk_T → List rk_H → Option rk_O) (n f : Nat) (as : List rk_V) (env : List rk_T) (hp : List rk_H) : Option rk_O :=
  if n ≤ hp.length ∧ as.all (rk_lt n) = true ∧ (hp.take n).all (rk_alc (rk_lt n)) = true then (match call f as env (hp.take n) with
    | some o => if o.2.2.all (fun x => decide (x.2.2.1.length = n)) = true then some (o.1, o.2.1, o.2.2.map (fun x => (x.1, x.2.1, x.2.2.1 ++ hp.drop n, x.2.2.2))) else none
    | none => none) else none
def rk_wrap (call : Nat → List rk_V → List rk_T → List rk_H → Option rk_O) (f : Nat) (as : List rk_V) (env : List rk_T) (hp : List rk_H) : Option rk_O := match as with
  | [.inr (.inl j)] => if j + 1 = hp.length then (match rk_suf call j f [.inr (.inl j)] env hp with
    | some o => some o
    | none => call f [.inr (.inl j)] env hp) else call f [.inr (.inl j)] env hp
  | as => call f as env hp
def rk_run (P : List rk_M2) (fty : rk_F) (cln : List String) (mci : List Nat) (sum : Nat → Nat → List rk_V → List rk_T → List rk_H → Option rk_O) (fuel : Nat) : Nat → Nat → List rk_V → List rk_T → List rk_H → Option rk_O
  | 0, _, _, _, _ => none
  | d + 1, f, as, env, hp => match sum d f as env hp with
   | some o => some o
   | none => match P[f]? with
    | some M => if M.2.1 ≤ 21 ∧ rk_sum env as ≤ M.2.1 then rk_loop fty cln mci (rk_wrap (rk_run P fty cln mci sum fuel d)) (fun _ _ _ => none) M fuel (0, (rk_args env 0 as, [], env, hp, 0, 0)) else none
    | none => none
end
section
/-! ===== rk: a run is sound ===== -/
theorem rk_arr_ty {vals : List Value} {ads : List Nat} {cA : ClassId} {q : rk_D} {e : va_E} (h : rk_arr vals ads cA q e) : True := trivial
theorem rk_c.moved {u U : State} (hvm : u.vm.Alike U.vm) {vals : List Value} {ads : List Nat} {c : rk_H} {e : va_E} (h : rk_c u vals ads c e) : rk_c U vals ads c e := by
  rcases c with o | q
  · exact h
  · obtain ⟨cA, h1, h2, h3⟩ := h
    exact ⟨cA, arrOfT_moved hvm h1, h2.moved hvm, h3⟩
/-- the words that aren't of the tables' own kind -/
def rk_xok (xw : List Jvm.Cond) : Prop := ∀ w ∈ xw, (∃ a i b n d h, w = .fieldLinkNest a i b n d h) ∨ (∃ a i x h, w = .methodLinkNest a i x h) ∨ (∃ C, w = .arrayOver (.object C)) ∨ (∃ t, w = .arrayOver (.array t))
theorem rk_xw_warm {xw : List Jvm.Cond} (hxo : rk_xok xw) {s U : State} (hW : s.WarmedH U.vm) (h : ∀ w ∈ xw, va_Nw w s) : ∀ w ∈ xw, va_Nw w U := by
  intro w hw
  rcases hxo w hw with ⟨a, i, b, n, d, hh, rfl⟩ | ⟨a, i, x, hh, rfl⟩ | ⟨C, rfl⟩ | ⟨t, rfl⟩
  · exact va_Nw.warmF hW (h _ hw)
  · exact va_Nw.warmM hW (h _ hw)
  · exact va_AO.moved hW.alike (h _ hw)
  · exact va_AOA.moved hW.alike (h _ hw)
theorem rk_xw_same {xw : List Jvm.Cond} (hxo : rk_xok xw) {s U : State} (hv : s.vm = U.vm) (h : ∀ w ∈ xw, va_Nw w s) : ∀ w ∈ xw, va_Nw w U := by
  intro w hw
  rcases hxo w hw with ⟨a, i, b, n, d, hh, rfl⟩ | ⟨a, i, x, hh, rfl⟩ | ⟨C, rfl⟩ | ⟨t, rfl⟩
  · exact va_Nw.same rfl hv (h _ hw)
  · exact va_Nw.same rfl hv (h _ hw)
  · exact va_AO.moved (by rw [hv]; exact Vm.Alike.refl _) (h _ hw)
  · exact va_AOA.moved (by rw [hv]; exact Vm.Alike.refl _) (h _ hw)
/-- what else is known of old cells: by the symbols, of a heap, outside what may be written -/
abbrev rk_XT : Type := List Value → (Nat → Prop) → State → Heap → Prop
def rk_xtok (xt : rk_XT) : Prop := (∀ (vals k : List Value) (Ad : Nat → Prop) (U : State) (H : Heap), xt vals Ad U H → xt (vals ++ k) Ad U H) ∧ (∀ (vals : List Value) (Ad : Nat → Prop) (s U : State) (H : Heap), s.vm = U.vm → xt vals Ad s H → xt vals Ad U H) ∧ (∀ (vals : List Value) (Ad : Nat → Prop) (s U : State) (H : Heap), s.WarmedH U.vm → xt vals Ad s H → xt vals Ad U H) ∧ (∀ (vals : List Value) (Ad B : Nat → Prop) (U : State) (H H1 : Heap), xt vals Ad U H → (∀ a, a < H.size → ¬ Ad a → H1[a]? = H[a]?) → (∀ q, B q → Ad q) → xt vals B U H1)
def rk_Pre (D : va_G) (cl : List vw_C) (xw : List Jvm.Cond) (xt : rk_XT) (vals0 : List Value) (ws0 : va_W) (hp : List rk_H) (sz : Nat) (av : List Value) : Array Value → State → Prop := fun v U => v = av.toArray ∧ U.heap.size = sz ∧ va_P D cl ws0 U.heap ∧ va_K D cl [] U ∧ va_D (fun _ => True) ws0 ∧ rk_A2 (fun c q => rk_c U vals0 (ws0.map Prod.fst) c q.2) hp ws0 ∧ (∀ w ∈ xw, va_Nw w U) ∧ xt vals0 (va_A ws0 sz) U U.heap
def rk_ret (r : Option rk_V) (vals : List Value) (ads : List Nat) (oc : Outcome) : Prop := match r with
  | none => oc = .returned none
  | some a => ∃ v, rk_g vals ads a v ∧ oc = .returned (some v)
def rk_Post (D : va_G) (cl : List vw_C) (xs : List rk_X) (vals0 : List Value) (ads0 : List Nat) (Ad : Nat → Prop) : Array Value → State → Outcome → State → Prop := fun _ st oc t =>
  (∃ x ∈ xs, ∃ (vals : List Value) (ws : va_W), (∃ k, vals = vals0 ++ k) ∧ (∃ k, ws.map Prod.fst = ads0 ++ k) ∧ rk_E x.2.1 vals ∧ rk_A2 (fun c q => rk_c t vals (ws.map Prod.fst) c q.2) x.2.2.1 ws ∧ va_P D cl ws t.heap ∧ va_D Ad ws ∧ rk_ret x.1 vals (ws.map Prod.fst) oc) ∧ va_F Ad st t
theorem rk_blind {D : va_G} {cl : List vw_C} {xw : List Jvm.Cond} {xt : rk_XT} {vals0 : List Value} {ws0 : va_W} {hp : List rk_H} {sz : Nat} {av : List Value} (hxo : rk_xok xw) (hxt : rk_xtok xt) : FrameBlind (rk_Pre D cl xw xt vals0 ws0 hp sz av) := by
  intro a U g mk q
  obtain ⟨h1, h2, h3, h4, h5, h6, h7, h8⟩ := q
  exact ⟨h1, h2, h3, va_K.moved (u := U) (U := U.calling g mk a) (Vm.Alike.refl U.vm) h4, h5, h6.mono (fun _ _ h => h.moved (u := U) (U := U.calling g mk a) (Vm.Alike.refl U.vm)), rk_xw_same hxo (s := U) (U := U.calling g mk a) rfl h7, hxt.2.1 _ _ U (U.calling g mk a) _ rfl h8⟩
/-- what is known of a method by its number: its class's name, its own name, its bytes -/
abbrev rk_N : Type := String × MethodName × ByteArray
def rk_kok (tbl : List Jvm.Cond) (own : String) (r : Nat × Nat × Nat × Nat) : Prop := r.2.1 = 12 → Jvm.Cond.methodLink own r.1 arraycopyName ∈ tbl ∧ Jvm.Cond.native arraycopyName ∈ tbl ∧ Jvm.Cond.static arraycopyName ∈ tbl ∧ Jvm.Cond.initialized "java/lang/System" ∈ tbl
/-- what a call's link must be for the tables -/
def rk_cok (tbl xw : List Jvm.Cond) (MN : List rk_N) (P : List rk_M2) (own : String) (r : Nat × Nat × Nat × Nat) : Prop := match r.2.1 with
  | 5 => ∃ q, MN[r.2.2.1]? = some q ∧ Jvm.Cond.methodLink own r.1 q.2.1 ∈ tbl ∧ Jvm.Cond.instanceMethod q.2.1 ∈ tbl ∧ Jvm.Cond.selects q.1 q.2.1 q.2.1 ∈ tbl ∧ (parseMethodDescriptor q.2.1.desc).map (fun d => d.parameters.length) = some r.2.2.2
  | 6 => ∃ q host, MN[r.2.2.1]? = some q ∧ Jvm.Cond.methodLinkNest own r.1 q.2.1 host ∈ xw ∧ Jvm.Cond.instanceMethod q.2.1 ∈ tbl ∧ Jvm.Cond.selects q.1 q.2.1 q.2.1 ∈ tbl ∧ (parseMethodDescriptor q.2.1.desc).map (fun d => d.parameters.length) = some r.2.2.2
  | 7 => ∃ q, MN[r.2.2.1]? = some q ∧ Jvm.Cond.methodLink own r.1 q.2.1 ∈ tbl ∧ Jvm.Cond.static q.2.1 ∈ tbl ∧ (parseMethodDescriptor q.2.1.desc).map (fun d => d.parameters.length) = some r.2.2.2
  | 8 => ∃ q host, MN[r.2.2.1]? = some q ∧ Jvm.Cond.methodLinkNest own r.1 q.2.1 host ∈ xw ∧ Jvm.Cond.static q.2.1 ∈ tbl ∧ (parseMethodDescriptor q.2.1.desc).map (fun d => d.parameters.length) = some r.2.2.2
  | 9 => ∃ q, MN[r.2.2.1]? = some q ∧ (∀ M, P[r.2.2.1]? = some M → M.2.2.2.2.1 = none) ∧ Jvm.Cond.methodLink own r.1 q.2.1 ∈ tbl ∧ Jvm.Cond.instanceMethod q.2.1 ∈ tbl ∧ q.2.1.name = "<init>" ∧ (parseMethodDescriptor q.2.1.desc).map (fun d => d.parameters.length) = some r.2.2.2
  | 10 => ∃ q host, MN[r.2.2.1]? = some q ∧ (∀ M, P[r.2.2.1]? = some M → M.2.2.2.2.1 = none) ∧ Jvm.Cond.methodLinkNest own r.1 q.2.1 host ∈ xw ∧ Jvm.Cond.instanceMethod q.2.1 ∈ tbl ∧ q.2.1.name = "<init>" ∧ (parseMethodDescriptor q.2.1.desc).map (fun d => d.parameters.length) = some r.2.2.2
  | 11 => Jvm.Cond.methodLink own r.1 objectInit ∈ tbl ∧ Jvm.Cond.instanceMethod objectInit ∈ tbl ∧ Jvm.Cond.code objectInit ⟨#[0xb1]⟩ 1 none ∈ tbl
  | _ => True
/-- what a method must be for the tables -/
def rk_mok (tbl xw : List Jvm.Cond) (cl : List vw_C) (MN : List rk_N) (P : List rk_M2) (mci : List Nat) (q : rk_N) (M : rk_M2) : Prop :=
  plainName q.2.1.cls = true ∧ q.2.1.cls = q.1 ∧ (q.2.1.cls ≠ "java/lang/invoke/MethodHandle" ∧ q.2.1.cls ≠ "java/lang/invoke/VarHandle") ∧ Jvm.Cond.code q.2.1 q.2.2 M.2.1 M.2.2.2.2.1 ∈ tbl ∧ Jvm.Cond.initialized q.2.1.cls ∈ tbl ∧ (∀ r ∈ M.1, decode q.2.2 r.1 = .ok r.2) ∧ (∀ r ∈ M.2.2.1, rk_lok tbl xw cl q.1 r ∧ rk_cok tbl xw MN P q.1 r ∧ rk_kok tbl q.1 r) ∧ ((∃ r ∈ M.2.2.1, r.2.1 = 2) → q.2.1.name = "<init>") ∧ (∀ r ∈ M.2.2.2.1, (∀ x, r.2 = .int x → Jvm.Cond.constant q.1 r.1 x ∈ tbl) ∧ (∀ x, r.2 = .long x → Jvm.Cond.constantLong q.1 r.1 x ∈ tbl))
/-- the whole of it -/
def rk_ok (tbl xw : List Jvm.Cond) (cl : List vw_C) (fty : rk_F) (cln : List String) (MN : List rk_N) (mci : List Nat) (P : List rk_M2) : Prop :=
  (∀ w ∈ tbl, goodWord w = true) ∧ rk_xok xw ∧ rk_clok tbl cl fty cln ∧ (Jvm.Cond.arrayClass .int ∈ tbl ∧ Jvm.Cond.arrayClass .byte ∈ tbl ∧ Jvm.Cond.arrayClass .long ∈ tbl) ∧ MN.length = P.length ∧ (∀ (f : Nat) (q : rk_N) (M : rk_M2), MN[f]? = some q → P[f]? = some M → rk_mok tbl xw cl MN P mci q M) ∧ (∀ (f ci : Nat) (q : rk_N) (k : vw_C), mci[f]? = some ci → MN[f]? = some q → cl[ci]? = some k → k.1 = q.1)
theorem rk_pop_ok {vals : List Value} {ads : List Nat} : ∀ (n : Nat) {acc sk as r : List rk_V} {va stk : List Value}, rk_pop n acc sk = some (as, r) → rk_A2 (rk_g vals ads) acc va → rk_A2 (rk_g vals ads) sk stk → ∃ (v2 r2 : List Value), rk_A2 (rk_g vals ads) as (v2 ++ va) ∧ rk_A2 (rk_g vals ads) r r2 ∧ stk = v2.reverse ++ r2 ∧ v2.length = n := by
  intro n
  induction n with
  | zero => intro acc sk as r va stk h ha hs; cases h; exact ⟨[], stk, by simpa using ha, hs, by simp, rfl⟩
  | succ n ih =>
    intro acc sk as r va stk h ha hs
    cases sk with
    | nil => cases h
    | cons a sk =>
      obtain ⟨v, k, rfl, hg, hs⟩ := hs.cons
      obtain ⟨v2, r2, h1, h2, rfl, h4⟩ := ih (show rk_pop n (a :: acc) sk = some (as, r) from h) (show rk_A2 (rk_g vals ads) (a :: acc) (v :: va) from ⟨hg, ha⟩) hs
      exact ⟨v2 ++ [v], r2, by simpa using h1, h2, by simp, by simp [h4]⟩
theorem rk_sum_ok {env : List rk_T} {vals : List Value} {ads : List Nat} (hE : rk_E env vals) : ∀ {r : List rk_V} {stk : List Value}, rk_A2 (rk_g vals ads) r stk → rk_sum env r = (stk.map fun v => v.category).sum := by
  intro r
  induction r with
  | nil => intro stk h; rw [h.nil]; rfl
  | cons a r ih =>
    intro stk h
    obtain ⟨v, k, rfl, hg, hs⟩ := h.cons
    simp [rk_sum, rk_cat_ok hE hg, ih hs]
theorem rk_fetch_mem {pc : Nat} {q : Instr × Nat} : ∀ {l : List (Nat × Instr × Nat)}, rk_fetch l pc = some q → (pc, q) ∈ l := by
  intro l
  induction l with
  | nil => intro h; cases h
  | cons r l ih =>
    intro h
    unfold rk_fetch at h
    split at h
    · next e => cases h; subst e; exact List.mem_cons_self
    · exact List.mem_cons_of_mem _ (ih h)
theorem rk_comb_ok {f : Nat × rk_S → Option rk_O} : ∀ {l : List (Nat × rk_S)} {o : rk_O}, rk_comb f l = some o → ∀ q ∈ l, ∃ o', f q = some o' ∧ o'.1 ≤ o.1 ∧ o'.2.1 ≤ o.2.1 ∧ ∀ x ∈ o'.2.2, x ∈ o.2.2 := by
  intro l
  induction l with
  | nil => intro o h q hq; cases hq
  | cons r l ih =>
    intro o h q hq
    unfold rk_comb at h
    split at h
    · next a b ha hb =>
      cases h
      rcases List.mem_cons.mp hq with rfl | hq
      · exact ⟨a, ha, Nat.le_max_left _ _, Nat.le_max_left _ _, fun x hx => List.mem_append_left _ hx⟩
      · obtain ⟨o', h1, h2, h3, h4⟩ := ih hb q hq
        exact ⟨o', h1, Nat.le_trans h2 (Nat.le_max_right _ _), Nat.le_trans h3 (Nat.le_max_right _ _), fun x hx => List.mem_append_right _ (h4 x hx)⟩
    · cases h
theorem rk_loop_ge {fty : rk_F} {cln : List String} {mci : List Nat} {call : Nat → List rk_V → List rk_T → List rk_H → Option rk_O} {ext : rk_Ext} {M : rk_M2} : ∀ {n : Nat} {q : Nat × rk_S} {o : rk_O}, rk_loop fty cln mci call ext M n q = some o → q.2.2.2.2.2.1 ≤ o.1 ∧ q.2.2.2.2.2.2 ≤ o.2.1 := by
  intro n q o h
  cases n with
  | zero => cases h
  | succ n =>
    unfold rk_loop at h
    split at h
    · cases h
    · split at h
      · split at h
        · cases h; exact ⟨Nat.le_refl _, Nat.le_refl _⟩
        · cases h
        · split at h
          · split at h
            · cases h; exact ⟨Nat.le_max_left _ _, Nat.le_max_left _ _⟩
            · cases h
          · cases h
      · cases h
theorem rk_args_ok {env : List rk_T} {vals : List Value} {ads : List Nat} (hE : rk_E env vals) : ∀ {as : List rk_V} {av : List Value} (i : Nat), rk_A2 (rk_g vals ads) as av → rk_Lo vals ads (rk_args env i as) (lv_args i av) := by
  intro as
  induction as with
  | nil => intro av i h; rw [h.nil]; trivial
  | cons a as ih =>
    intro av i h
    obtain ⟨v, k, rfl, hg, hs⟩ := h.cons
    refine ⟨⟨rfl, hg⟩, ?_⟩
    have e : i + rk_cat env a = if v.category = 2 then i + 2 else i + 1 := by
      rw [rk_cat_ok hE hg]
      rcases lv_cat v with q | q <;> simp [q]
    rw [e]
    exact ih _ hs
section RKB
variable {p : Program} {l : Launch} {e : Env} {R : Room} {s : State} {m : MethodId} {args : Array Value} {below : List Frame} {meth : Method} {c : Code} {Q : State → Prop} {cc : ByteArray} {D : va_G} {cl : List vw_C} {Ad : Nat → Prop} {nL : Nat} {vals0 : List Value} {ads0 : List Nat}
/-- behind a call: each end of the callee goes on in the caller -/
theorem rk_back {vals : List Value} {ws : va_W} {H : Heap} {locs : List Loc} {ls : Array Slot} {st0 rest : List Value} {lc : List (Nat × Value)} {env : List rk_T} {hp : List rk_H} {lo : List (Nat × rk_V)} {r : List rk_V} {o : rk_O} {pc nc ns : Nat} {res : List (Nat × rk_S)} {as : Array Value}
    (hA : ∀ q, s.heap.size ≤ q → Ad q) (hG : rk_G s D cl Ad vals0 ads0 vals ws H locs env hp) (hl : lv_has ls nL lc) (hL : rk_Lo vals (ws.map Prod.fst) lo lc) (hS : rk_A2 (rk_g vals (ws.map Prod.fst)) r rest)
    (hr : va_Run p l e R s m args below meth c H locs nc ns o.1 o.2.1 (F0 m pc ls st0) rest (rk_Post D cl o.2.2 vals (ws.map Prod.fst) (va_A ws H.size) as) (va_A ws H.size))
    (h : rk_after (some o) pc lo r nc ns = some res) (kk : ∀ q ∈ res, rk_W (rk_KW p l e R s m args below meth c Q) s D cl Ad nL vals0 ads0 q.1 q.2) : rk_KW p l e R s m args below meth c Q pc ls st0 H locs nc ns := by
  have hres : res = o.2.2.map (fun x => (pc + 3, (lo, x.1.toList ++ r, x.2.1, x.2.2.1, nc + o.1, ns + o.2.1))) := by
    unfold rk_after at h
    dsimp only at h
    split at h
    · cases h
    · exact (Option.some.inj h).symm
  subst hres
  have hsub : ∀ q, va_A ws H.size q → Ad q := by
    rintro q (⟨k, e1, hk⟩ | hq)
    · exact hG.2.2.2.1.2 k _ hk
    · exact hA q (Nat.le_trans hG.2.2.2.2.1.1 hq)
  intro T hT X
  obtain ⟨v, st₀, t, T', L, h0, X', hLf, e1, e2, ⟨⟨x, hxm, vals', ws', hv', ha', hE', hC', hP', hD', hret⟩, hF⟩, go⟩ := hr T hT X
  have hal : t.vm.Alike s.vm := by rw [← e2]; exact X'.warmed.alike.symm
  obtain ⟨-, -, -, -, h5, ⟨k6, h6⟩, k7, h7⟩ := id hG
  have hS1 : va_S Ad s.heap t.heap (locs ++ L) := by
    refine ⟨Nat.le_trans h5.1 (by rw [← h0]; exact hF.1), fun q hq hn => ?_, fun z hz => ?_⟩
    · rw [hF.2 q (by rw [h0]; exact Nat.lt_of_lt_of_le hq h5.1) (fun z => hn (hsub q z)), h0]
      exact h5.2.1 q hq hn
    · rcases List.mem_append.mp hz with z1 | z1
      · exact h5.2.2 z z1
      · exact hsub _ (hLf z z1)
  have hG1 : rk_G s D cl Ad vals0 ads0 vals' ws' t.heap (locs ++ L) x.2.1 x.2.2.1 := by
    obtain ⟨kv, rfl⟩ := hv'
    obtain ⟨ka, ha'⟩ := ha'
    exact ⟨hE', hC'.mono (fun _ _ h => h.moved hal), hP', hD'.weaken (fun _ _ _ z => hsub _ z), hS1, ⟨k6 ++ kv, by rw [h6, List.append_assoc]⟩, ⟨k7 ++ ka, by rw [ha', h7, List.append_assoc]⟩⟩
  have hL1 : rk_Lo vals' (ws'.map Prod.fst) lo lc := rk_A2.mono (fun _ _ h => ⟨h.1, h.2.grow hv' ha'⟩) hL
  have hS2 : rk_A2 (rk_g vals' (ws'.map Prod.fst)) (x.1.toList ++ r) (v.toList ++ rest) := by
    have hS3 : rk_A2 (rk_g vals' (ws'.map Prod.fst)) r rest := rk_A2.mono (fun _ _ h => h.grow hv' ha') hS
    cases hx1 : x.1 with
    | none =>
      rw [hx1] at hret
      have : v = none := Outcome.returned.inj hret
      subst this
      exact hS3
    | some a =>
      rw [hx1] at hret
      obtain ⟨w, hg, ew⟩ := hret
      have : v = some w := Outcome.returned.inj ew
      subst this
      exact ⟨hg, hS3⟩
  obtain ⟨t2, a1, b1⟩ := kk _ (List.mem_map.mpr ⟨x, hxm, rfl⟩) vals' ws' t.heap (locs ++ L) ls _ lc hG1 hl hL1 hS2 T' e1 X'
  exact ⟨t2, go t2 a1, b1⟩
end RKB
end
section
theorem rk_num_ok {env : List rk_T} {vals : List Value} {ads : List Nat} {a : rk_V} {v : Value} {k : Nat} (hE : rk_E env vals) (h : rk_g vals ads a v) (hi : rk_num env a = some k) : ∃ x : Int32, v = .int x ∧ ¬ x < 0 ∧ x.toNatClampNeg = k := by
  unfold rk_num at hi
  split at hi
  · next I hI =>
    obtain ⟨x, rfl, h1, h2⟩ := rk_iv_ok hE h hI
    split at hi
    · next hc =>
      cases hi
      have e : x.toInt = I.1 := by omega
      have hc2 : x.toNatClampNeg = I.1.toNat := by rw [← e]; rfl
      exact ⟨x, rfl, by rw [Int32.lt_iff_toInt_lt, Int32.toInt_zero]; omega, hc2⟩
    · cases hi
  · cases hi
theorem rk_cpy_look (d1 d0 : rk_V) (o0 : List (Nat × rk_V)) (sp dp : Nat) (acc : List (Nat × rk_V)) (j : Nat) : ∀ n : Nat, rk_look d1 (rk_cpy d0 o0 sp dp n acc) j = if dp ≤ j ∧ j < dp + n then rk_look d0 o0 (sp + (j - dp)) else rk_look d1 acc j := by
  intro n
  induction n with
  | zero => rw [if_neg (by omega)]; rfl
  | succ n ih =>
    show (if dp + n = j then rk_look d0 o0 (sp + n) else rk_look d1 (rk_cpy d0 o0 sp dp n acc) j) = _
    by_cases e : dp + n = j
    · rw [if_pos e, if_pos (by omega), show j - dp = n by omega]
    · rw [if_neg e, ih]
      by_cases q : dp ≤ j ∧ j < dp + n
      · rw [if_pos q, if_pos (by omega)]
      · rw [if_neg q, if_neg (by omega)]
section RKC
variable {p : Program} {l : Launch} {e : Env} {R : Room} {s : State} {m : MethodId} {args : Array Value} {below : List Frame} {meth : Method} {c : Code} {Q : State → Prop} {cc : ByteArray} {D : va_G} {cl : List vw_C} {Ad : Nat → Prop} {nL : Nat} {vals0 : List Value} {ads0 : List Nat}
variable {tbl xw : List Jvm.Cond} {fty : rk_F} {cln : List String} {own : String} {lk : List (Nat × Nat × Nat × Nat)} {cs : List (Nat × Value)}
set_option maxHeartbeats 4000000 in
theorem rk_copy_ok (hx : p.tables.exec = Jvm.exec) (hb : c.code = cc) (hml : c.maxLocals = nL) (hF : rk_Fr s m args meth D cl Ad tbl xw fty cln own lk cs) (hck : ∀ r ∈ lk, rk_kok tbl own r) (hfr : 1 ≤ R.frames) (hlo : 40 ≤ R.locals) {pc : Nat} {ins : Instr} {len : Nat} {st : rk_S} {res : List (Nat × rk_S)} (hdg : decode cc pc = .ok (ins, len)) (hlen : rk_len ins len = true) (h : rk_copy lk pc ins st = some res) (kk : ∀ q ∈ res, rk_W (rk_KW p l e R s m args below meth c Q) s D cl Ad nL vals0 ads0 q.1 q.2) : rk_W (rk_KW p l e R s m args below meth c Q) s D cl Ad nL vals0 ads0 pc st := by
  obtain ⟨hts, hxw, hown, hK, hA, hcl, hlk, hini, hac, hcs⟩ := hF
  obtain ⟨lo, sk, env, hp, nc, ns⟩ := st
  intro vals ws H locs ls stk lc hG hl hL hS
  dsimp only at hG hL hS ⊢
  cases ins
  case invokestatic idx =>
    simp [rk_len] at hlen; subst hlen
    simp only [rk_copy] at h
    split at h
    · next a0 a1 hlk1 =>
      obtain ⟨w1, w2, w3, w4⟩ := hck _ (rk_lk_mem hlk1) rfl
      split at h
      · next an adp j1 asp j0 r =>
        split at h
        · next hsum =>
          obtain ⟨vn, k1, rfl, gn, hSn⟩ := hS.cons; clear hS; have hS := hSn; clear hSn
          obtain ⟨vd, k2, rfl, gd, hSn⟩ := hS.cons; clear hS; have hS := hSn; clear hSn
          obtain ⟨va1, k3, rfl, ⟨x1, hj1x, rfl⟩, hSn⟩ := hS.cons; clear hS; have hS := hSn; clear hSn
          obtain ⟨vs, k4, rfl, gs, hSn⟩ := hS.cons; clear hS; have hS := hSn; clear hSn
          obtain ⟨va0, k5, rfl, ⟨x0, hj0x, rfl⟩, hSn⟩ := hS.cons; clear hS; have hS := hSn; clear hSn
          rw [rk_sum_ok hG.1 hS] at hsum
          have hnf : nativeFrameWords "java/lang/System" "arraycopy" 5 ≤ 20 := by decide +kernel
          have hlr : (k5.map fun v => v.category).sum + (nativeFrameWords "java/lang/System" "arraycopy" 5 + 11) ≤ R.locals := by omega
          split at h
          · next n dp sp n0 d0 o0 n1 d1 o1 hn hdp hsp hj0 hj1 =>
            split at h
            · next hc =>
              cases h
              obtain ⟨xn, rfl, qn, rfl⟩ := rk_num_ok hG.1 gn hn
              obtain ⟨xd, rfl, qd, rfl⟩ := rk_num_ok hG.1 gd hdp
              obtain ⟨xs, rfl, qs, rfl⟩ := rk_num_ok hG.1 gs hsp
              obtain ⟨e0, hw0, cA0, hA01, hA02, f, rfl, hf⟩ := hG.cell hj0 hj0x
              obtain ⟨e1, hw1, cA1, hA11, hA12, g, rfl, hg⟩ := hG.cell hj1 hj1x
              have hK2 : va_K D cl [(cA0, .int), (cA1, .int)] s := (rk_K1 hK hA01 hA02).app (rk_K1 hK hA11 hA12)
              refine va_copyi (ty := .int) hx hb (by rw [hml]; exact hl.1.symm) hown (hts _ w1) (hts _ w2) (hts _ w3) (hts _ w4) hK2 hG.2.2.1 hG.2.2.2.1 hG.2.2.2.2.1 j0 j1 0 1 hw0 hw1 rfl rfl rfl qs qd qn hc.1 hc.2 (fun _ _ => rfl) hfr hlr hdg (fun H1 locs1 hP1 hD1 hS1 => ?_)
              have hG1 := hG.setc (c' := .inr (.int, n1, d1, rk_cpy d0 o0 xs.toNatClampNeg xd.toNatClampNeg xn.toNatClampNeg o1)) hw1 hP1 hD1 hS1 ⟨cA1, hA11, hA12, _, rfl, fun j => by
                show rk_g vals (ws.map Prod.fst) (rk_look d1 (rk_cpy d0 o0 xs.toNatClampNeg xd.toNatClampNeg xn.toNatClampNeg o1) j) _
                rw [rk_cpy_look]
                split
                · next q => rw [pk_cpy_in q.1 q.2]; exact hf _
                · next q => rw [pk_cpy_out (by omega)]; exact hg _⟩
              refine kk _ (List.mem_singleton.mpr rfl) vals _ H1 locs1 ls _ lc hG1 hl ?_ ?_
              · rw [rk_map_set hw1]; exact hL
              · rw [rk_map_set hw1]; exact hS
            · cases h
          · next n dp sp n0 d0 o0 n1 d1 o1 hn hdp hsp hj0 hj1 =>
            split at h
            · next hc =>
              cases h
              obtain ⟨xn, rfl, qn, rfl⟩ := rk_num_ok hG.1 gn hn
              obtain ⟨xd, rfl, qd, rfl⟩ := rk_num_ok hG.1 gd hdp
              obtain ⟨xs, rfl, qs, rfl⟩ := rk_num_ok hG.1 gs hsp
              obtain ⟨e0, hw0, cA0, hA01, hA02, f, rfl, hf⟩ := hG.cell hj0 hj0x
              obtain ⟨e1, hw1, cA1, hA11, hA12, g, rfl, hg⟩ := hG.cell hj1 hj1x
              have hK2 : va_K D cl [(cA0, .long), (cA1, .long)] s := (rk_K1 hK hA01 hA02).app (rk_K1 hK hA11 hA12)
              refine va_copyl (ty := .long) hx hb (by rw [hml]; exact hl.1.symm) hown (hts _ w1) (hts _ w2) (hts _ w3) (hts _ w4) hK2 hG.2.2.1 hG.2.2.2.1 hG.2.2.2.2.1 j0 j1 0 1 hw0 hw1 rfl rfl rfl qs qd qn hc.1 hc.2 (fun _ _ => rfl) hfr hlr hdg (fun H1 locs1 hP1 hD1 hS1 => ?_)
              have hG1 := hG.setc (c' := .inr (.long, n1, d1, rk_cpy d0 o0 xs.toNatClampNeg xd.toNatClampNeg xn.toNatClampNeg o1)) hw1 hP1 hD1 hS1 ⟨cA1, hA11, hA12, _, rfl, fun j => by
                show rk_g vals (ws.map Prod.fst) (rk_look d1 (rk_cpy d0 o0 xs.toNatClampNeg xd.toNatClampNeg xn.toNatClampNeg o1) j) _
                rw [rk_cpy_look]
                split
                · next q => rw [pk_cpy_in q.1 q.2]; exact hf _
                · next q => rw [pk_cpy_out (by omega)]; exact hg _⟩
              refine kk _ (List.mem_singleton.mpr rfl) vals _ H1 locs1 ls _ lc hG1 hl ?_ ?_
              · rw [rk_map_set hw1]; exact hL
              · rw [rk_map_set hw1]; exact hS
            · cases h
          · cases h
        · cases h
      · cases h
    · cases h
  all_goals (simp [rk_copy] at h)
end RKC
end
section
/-! ===== rk: Math.max, min, abs are sound ===== -/
theorem rk_s_max : rk_sound2 (fun x y => if x < y then y else x) rk_imax := by
  intro x y I J h1 h2 h3 h4
  unfold rk_imax
  dsimp only
  split
  · next h =>
    have := Int32.lt_iff_toInt_lt.mp h
    omega
  · next h =>
    have : ¬ x.toInt < y.toInt := fun q => h (Int32.lt_iff_toInt_lt.mpr q)
    omega
theorem rk_s_min : rk_sound2 (fun x y => if y < x then y else x) rk_imin := by
  intro x y I J h1 h2 h3 h4
  unfold rk_imin
  dsimp only
  split
  · next h =>
    have := Int32.lt_iff_toInt_lt.mp h
    omega
  · next h =>
    have : ¬ y.toInt < x.toInt := fun q => h (Int32.lt_iff_toInt_lt.mpr q)
    omega
section RKMA
variable {p : Program} {l : Launch} {e : Env} {R : Room} {s : State} {m : MethodId} {args : Array Value} {below : List Frame} {meth : Method} {c : Code} {Q : State → Prop} {cc : ByteArray} {D : va_G} {cl : List vw_C} {Ad : Nat → Prop} {nL : Nat} {vals0 : List Value} {ads0 : List Nat}
variable {tbl xw : List Jvm.Cond} {fty : rk_F} {cln : List String} {own : String} {lk : List (Nat × Nat × Nat × Nat)} {cs : List (Nat × Value)}
set_option maxHeartbeats 4000000 in
theorem rk_math_ok (hx : p.tables.exec = Jvm.exec) (hb : c.code = cc) (hml : c.maxLocals = nL) (hF : rk_Fr s m args meth D cl Ad tbl xw fty cln own lk cs) (hfr : 1 ≤ R.frames) (hlo : 40 ≤ R.locals) {pc : Nat} {ins : Instr} {len : Nat} {st : rk_S} {res : List (Nat × rk_S)} (hdg : decode cc pc = .ok (ins, len)) (hlen : rk_len ins len = true) (h : rk_math lk pc ins st = some res) (hroom : ∀ q ∈ res, q.2.2.2.2.2.1 ≤ R.cells ∧ q.2.2.2.2.2.2 ≤ R.slots) (kk : ∀ q ∈ res, rk_W (rk_KW p l e R s m args below meth c Q) s D cl Ad nL vals0 ads0 q.1 q.2) : rk_W (rk_KW p l e R s m args below meth c Q) s D cl Ad nL vals0 ads0 pc st := by
  obtain ⟨hts, hxw, hown, hK, hA, hcl, hlk, hini, hac, hcs⟩ := hF
  obtain ⟨lo, sk, env, hp, nc, ns⟩ := st
  intro vals ws H locs ls stk lc hG hl hL hS
  dsimp only at hG hL hS ⊢
  cases ins
  case invokestatic idx =>
    simp [rk_len] at hlen; subst hlen
    simp only [rk_math] at h
    split at h
    · next a0 a1 hlk1 =>
      obtain ⟨w1, w2, w3, w4⟩ := hlk _ (rk_lk_mem hlk1)
      split at h
      · next b a r =>
        split at h
        · next hsum =>
          unfold rk_op2 at h
          split at h
          · next q hq =>
            cases h
            obtain ⟨vb, k1, rfl, gb, hSn⟩ := hS.cons; clear hS; have hS := hSn; clear hSn
            obtain ⟨va, k2, rfl, ga, hSn⟩ := hS.cons; clear hS; have hS := hSn; clear hSn
            rw [rk_sum_ok hG.1 hS] at hsum
            obtain ⟨x, y, k3, rfl, rfl, hE2, hg2⟩ := rk_bin_ok rk_s_max hG.1 ga gb hq
            have hrm := hroom _ (List.mem_singleton.mpr rfl)
            refine va_mmax hx hb (by rw [hml]; exact hl.1.symm) hown (hts _ w1) (hts _ w2) (hts _ w3) (hts _ w4) hfr (by omega) hrm.1 hrm.2 hdg ?_
            exact kk _ (List.mem_singleton.mpr rfl) (vals ++ k3) ws H locs ls _ lc (hG.env hE2) hl (hL.grow k3) ⟨hg2, rk_skG hS k3⟩
          · cases h
        · cases h
      · cases h
    · next a0 a1 hlk1 =>
      obtain ⟨w1, w2, w3, w4⟩ := hlk _ (rk_lk_mem hlk1)
      split at h
      · next b a r =>
        split at h
        · next hsum =>
          unfold rk_op2 at h
          split at h
          · next q hq =>
            cases h
            obtain ⟨vb, k1, rfl, gb, hSn⟩ := hS.cons; clear hS; have hS := hSn; clear hSn
            obtain ⟨va, k2, rfl, ga, hSn⟩ := hS.cons; clear hS; have hS := hSn; clear hSn
            rw [rk_sum_ok hG.1 hS] at hsum
            obtain ⟨x, y, k3, rfl, rfl, hE2, hg2⟩ := rk_bin_ok rk_s_min hG.1 ga gb hq
            have hrm := hroom _ (List.mem_singleton.mpr rfl)
            refine va_mmin hx hb (by rw [hml]; exact hl.1.symm) hown (hts _ w1) (hts _ w2) (hts _ w3) (hts _ w4) hfr (by omega) hrm.1 hrm.2 hdg ?_
            exact kk _ (List.mem_singleton.mpr rfl) (vals ++ k3) ws H locs ls _ lc (hG.env hE2) hl (hL.grow k3) ⟨hg2, rk_skG hS k3⟩
          · cases h
        · cases h
      · cases h
    · next a0 a1 hlk1 =>
      obtain ⟨w1, w2, w3, w4⟩ := hlk _ (rk_lk_mem hlk1)
      split at h
      · next b a r =>
        split at h
        · next hsum =>
          unfold rk_op2 at h
          split at h
          · next q hq =>
            cases h
            obtain ⟨vb, k1, rfl, gb, hSn⟩ := hS.cons; clear hS; have hS := hSn; clear hSn
            obtain ⟨va, k2, rfl, ga, hSn⟩ := hS.cons; clear hS; have hS := hSn; clear hSn
            rw [rk_sum_ok hG.1 hS] at hsum
            obtain ⟨x, y, k3, rfl, rfl, hE2, hg2⟩ := rk_lbin_ok hG.1 ga gb hq
            have hrm := hroom _ (List.mem_singleton.mpr rfl)
            refine va_mmax_long hx hb (by rw [hml]; exact hl.1.symm) hown (hts _ w1) (hts _ w2) (hts _ w3) (hts _ w4) hfr (by omega) hrm.1 hrm.2 hdg ?_
            exact kk _ (List.mem_singleton.mpr rfl) (vals ++ k3) ws H locs ls _ lc (hG.env hE2) hl (hL.grow k3) ⟨hg2, rk_skG hS k3⟩
          · cases h
        · cases h
      · cases h
    · next a0 a1 hlk1 =>
      obtain ⟨w1, w2, w3, w4⟩ := hlk _ (rk_lk_mem hlk1)
      split at h
      · next a r =>
        split at h
        · next hsum =>
          unfold rk_op2 at h
          split at h
          · next q hq =>
            cases h
            obtain ⟨va, k2, rfl, ga, hSn⟩ := hS.cons; clear hS; have hS := hSn; clear hSn
            rw [rk_sum_ok hG.1 hS] at hsum
            obtain ⟨x, k3, rfl, hE2, hg2⟩ := rk_un_ok (fun x => rk_full_ok _) hG.1 ga hq
            have hrm := hroom _ (List.mem_singleton.mpr rfl)
            refine va_mabs hx hb (by rw [hml]; exact hl.1.symm) hown (hts _ w1) (hts _ w2) (hts _ w3) (hts _ w4) hfr (by omega) hrm.1 hrm.2 hdg ?_
            exact kk _ (List.mem_singleton.mpr rfl) (vals ++ k3) ws H locs ls _ lc (hG.env hE2) hl (hL.grow k3) ⟨hg2, rk_skG hS k3⟩
          · cases h
        · cases h
      · cases h
    · cases h
  all_goals (simp [rk_math] at h)
end RKMA
end
section
section RKL
variable {p : Program} {l : Launch} {e : Env} {R : Room} {s : State} {m : MethodId} {args : Array Value} {below : List Frame} {meth : Method} {c : Code} {Q : State → Prop} {cc : ByteArray} {D : va_G} {cl : List vw_C} {Ad : Nat → Prop} {nL : Nat} {vals0 : List Value} {ads0 : List Nat}
variable {xt : rk_XT} {tbl xw : List Jvm.Cond} {fty : rk_F} {cln : List String} {MN : List rk_N} {mci : List Nat} {P : List rk_M2} {own : String} {lk : List (Nat × Nat × Nat × Nat)} {cs : List (Nat × Value)}
/-- the calls are sound, d frames deep -/
def rk_SC (l : Launch) (D : va_G) (cl : List vw_C) (tbl xw : List Jvm.Cond) (xt : rk_XT) (MN : List rk_N) (P : List rk_M2) (d : Nat) (call : Nat → List rk_V → List rk_T → List rk_H → Option rk_O) : Prop :=
  ∀ (f : Nat) (as : List rk_V) (env : List rk_T) (hp : List rk_H) (o : rk_O), call f as env hp = some o → ∀ (q : rk_N), MN[f]? = some q → ∃ M, P[f]? = some M ∧ M.2.1 ≤ 21 ∧ ∀ (vals : List Value) (ws : va_W) (av : List Value) (sz : Nat), rk_E env vals → rk_A2 (rk_g vals (ws.map Prod.fst)) as av →
    Met l q.2.1 (Jvm.Cond.code q.2.1 q.2.2 M.2.1 M.2.2.2.2.1 :: tbl) { frames := d, cells := o.1, slots := o.2.1, locals := 40 * d } (rk_Pre D cl xw xt vals ws hp sz av) (rk_Post D cl o.2.2 vals (ws.map Prod.fst) (va_A ws sz)) o.1 o.2.1 (va_A ws sz)
theorem rk_good {y : MethodName} {b : ByteArray} {n : Nat} {ret : Option FieldType} (hg : ∀ w ∈ tbl, goodWord w = true) (hc : Jvm.Cond.code y b n ret ∈ tbl) : GoodIn tbl (Jvm.Cond.code y b n ret :: tbl) := by
  intro w hw
  rcases List.mem_cons.mp hw with rfl | hw
  · exact ⟨hc, good_of_word (hg _ hc)⟩
  · exact ⟨hw, good_of_word (hg _ hw)⟩
theorem rk_pre {vals : List Value} {ws : va_W} {H : Heap} {locs : List Loc} {env : List rk_T} {hp : List rk_H} {av : List Value} (hxo : rk_xok xw) (hxw : ∀ w ∈ xw, va_Nw w s) (hxt : rk_xtok xt) (hXt : xt vals0 Ad s s.heap) (hA : ∀ q, s.heap.size ≤ q → Ad q) (hK : va_K D cl [] s) (hG : rk_G s D cl Ad vals0 ads0 vals ws H locs env hp) (U : State) (hU : U.heap = H) (hW : s.WarmedH U.vm) : rk_Pre D cl xw xt vals ws hp H.size av av.toArray U :=
  ⟨rfl, by rw [hU], by rw [hU]; exact hG.2.2.1, va_K.moved hW.alike hK, hG.2.2.2.1.weaken (fun _ _ _ _ => trivial), hG.2.1.mono (fun _ _ h => h.moved hW.alike), rk_xw_warm hxo hW hxw, by
    obtain ⟨x1, x2, x3, x4⟩ := hxt
    obtain ⟨k, hk⟩ := hG.2.2.2.2.2.1
    rw [hU, hk]
    refine x3 _ _ _ _ _ hW (x1 _ _ _ _ _ (x4 _ _ _ _ _ _ hXt (fun a ha hn => hG.2.2.2.2.1.2.1 a ha hn) ?_))
    rintro q (⟨k, e1, hk⟩ | hq)
    · exact hG.2.2.2.1.2 k _ hk
    · exact hA q (Nat.le_trans hG.2.2.2.2.1.1 hq)⟩
theorem rk_after_ne {o : rk_O} {pc : Nat} {lo : List (Nat × rk_V)} {r : List rk_V} {nc ns : Nat} {res : List (Nat × rk_S)} (h : rk_after (some o) pc lo r nc ns = some res) : ∃ q ∈ res, q.2.2.2.2.2.1 = nc + o.1 ∧ q.2.2.2.2.2.2 = ns + o.2.1 := by
  unfold rk_after at h
  dsimp only at h
  split at h
  · cases h
  · next hne =>
    cases h
    cases hl : o.2.2 with
    | nil => rw [hl] at hne; exact absurd rfl hne
    | cons x r => exact ⟨_, List.mem_cons_self, rfl, rfl⟩
set_option maxHeartbeats 4000000 in
theorem rk_call_ok (hxt : rk_xtok xt) (hXt : xt vals0 Ad s s.heap) (hok : rk_ok tbl xw cl fty cln MN mci P) (hx : p.tables.exec = Jvm.exec) (hb : c.code = cc) (hml : c.maxLocals = nL) (hF : rk_Fr s m args meth D cl Ad tbl xw fty cln own lk cs) (hck : ∀ r ∈ lk, rk_cok tbl xw MN P own r) {d : Nat} {call : Nat → List rk_V → List rk_T → List rk_H → Option rk_O} (hcall : rk_SC l D cl tbl xw xt MN P d call) (hfr : d + 1 ≤ R.frames) (hlo : 40 * (d + 1) ≤ R.locals) {pc : Nat} {ins : Instr} {len : Nat} {st : rk_S} {res : List (Nat × rk_S)} (hdg : decode cc pc = .ok (ins, len)) (hlen : rk_len ins len = true) (h : rk_call mci call lk pc ins st = some res) (hroom : ∀ q ∈ res, q.2.2.2.2.2.1 ≤ R.cells ∧ q.2.2.2.2.2.2 ≤ R.slots) (kk : ∀ q ∈ res, rk_W (rk_KW p l e R s m args below meth c Q) s D cl Ad nL vals0 ads0 q.1 q.2) : rk_W (rk_KW p l e R s m args below meth c Q) s D cl Ad nL vals0 ads0 pc st := by
  obtain ⟨hgw, hxo, -, -, hlenM, hmok, hmci⟩ := hok
  obtain ⟨hts, hxw, hown, hK, hA, hcl, hlk, hini, hac, hcs⟩ := hF
  obtain ⟨lo, sk, env, hp, nc, ns⟩ := st
  intro vals ws H locs ls stk lc hG hl hL hS
  dsimp only at hG hL hS ⊢
  have hfix : CallFix p m c cc nL s args tbl own := ⟨hx, hb, hml, hown, hts⟩
  cases ins
  case invokevirtual idx =>
    simp [rk_len] at hlen; subst hlen
    simp only [rk_call] at h
    split at h
    · next kd f n hlk1 =>
      split at h
      · next hkd =>
        split at h
        · next as j r hpop =>
          split at h
          · next o1 hj =>
            split at h
            · next hcnd =>
              cases hcl1 : call f (.inr (.inl j) :: as) env hp with
              | none => rw [hcl1] at h; cases h
              | some o =>
                rw [hcl1] at h
                obtain ⟨v2, r2, ha1, hr1, rfl, hn⟩ := rk_pop_ok n hpop (show rk_A2 (rk_g vals (ws.map Prod.fst)) [] [] from trivial) hS
                rw [List.append_nil] at ha1
                obtain ⟨vr, rest, rfl, hgr, hS1⟩ := hr1.cons
                obtain ⟨x, hjx, rfl⟩ := id hgr
                obtain ⟨e1, hw, vs, rfl, hvs⟩ := hG.cell hj hjx
                have hck1 := hck _ (rk_lk_mem hlk1)
                obtain ⟨qr, hqr, hr1, hr2⟩ := rk_after_ne h
                have hrm := hroom qr hqr
                rw [hr1, hr2] at hrm
                have hsum := hcnd.2
                rw [rk_sum_ok hG.1 hS1] at hsum
                rcases hkd with rfl | rfl
                · obtain ⟨q, hq, w1, w2, w3, w4⟩ := hck1
                  obtain ⟨M, hM, hM21, hmet⟩ := hcall f _ _ _ _ hcl1 q hq
                  obtain ⟨m1, m2, m3, m4, m5, -⟩ := hmok f q M hq hM
                  obtain ⟨kq, hkq, -⟩ := hG.2.2.1 j _ hw
                  have hkn := hmci f o1.1 q kq hcnd.1 hq hkq
                  have hrecv := va_recv hK hG.2.2.1 hkq hw
                  rw [hkn] at hrecv
                  refine rk_back (as := (Value.ref x :: v2).toArray) hA hG hl hL hS1 ?_ h kk
                  exact va_runV (C := q.1) hfix (hmet vals ws (.ref x :: v2) H.size hG.1 ⟨hgr, ha1⟩) ⟨callB_of n hts (rk_good hgw m4) rfl rfl rfl (hts _ m5) (hts _ w1) ⟨m3.1, m3.2, w4⟩ ⟨hfr, by show 8 + (M.2.1 + 11) + 40 * d ≤ R.locals; omega⟩, hts _ w2, hts _ w3⟩ ⟨rk_blind hxo hxt, hrecv, fun U hU hW => rk_pre hxo hxw hxt hXt hA hK hG U hU hW⟩ rfl hn hl.1 rfl (lv_room hsum) hdg hrm
                · obtain ⟨q, host, hq, w1, w2, w3, w4⟩ := hck1
                  obtain ⟨M, hM, hM21, hmet⟩ := hcall f _ _ _ _ hcl1 q hq
                  obtain ⟨m1, m2, m3, m4, m5, -⟩ := hmok f q M hq hM
                  obtain ⟨kq, hkq, -⟩ := hG.2.2.1 j _ hw
                  have hkn := hmci f o1.1 q kq hcnd.1 hq hkq
                  have hrecv := va_recv hK hG.2.2.1 hkq hw
                  rw [hkn] at hrecv
                  refine rk_back (as := (Value.ref x :: v2).toArray) hA hG hl hL hS1 ?_ h kk
                  exact va_runVN (C := q.1) hfix (hmet vals ws (.ref x :: v2) H.size hG.1 ⟨hgr, ha1⟩) ⟨va_cnB n hts (rk_good hgw m4) rfl rfl rfl (hxw _ w1) (hts _ m5) ⟨m3.1, m3.2, w4⟩ ⟨hfr, by show 8 + (M.2.1 + 11) + 40 * d ≤ R.locals; omega⟩, hts _ w2, hts _ w3⟩ ⟨rk_blind hxo hxt, hrecv, fun U hU hW => rk_pre hxo hxw hxt hXt hA hK hG U hU hW⟩ rfl hn hl.1 rfl (lv_room hsum) hdg hrm
            · cases h
          · cases h
        · cases h
      · cases h
    · cases h
  case invokestatic idx =>
    simp [rk_len] at hlen; subst hlen
    simp only [rk_call] at h
    split at h
    · next kd f n hlk1 =>
      split at h
      · next hkd =>
        split at h
        · next as r hpop =>
          split at h
          · next hcnd =>
            cases hcl1 : call f as env hp with
            | none => rw [hcl1] at h; cases h
            | some o =>
              rw [hcl1] at h
              obtain ⟨v2, rest, ha1, hS1, rfl, hn⟩ := rk_pop_ok n hpop (show rk_A2 (rk_g vals (ws.map Prod.fst)) [] [] from trivial) hS
              rw [List.append_nil] at ha1
              have hck1 := hck _ (rk_lk_mem hlk1)
              obtain ⟨qr, hqr, hr1, hr2⟩ := rk_after_ne h
              have hrm := hroom qr hqr
              rw [hr1, hr2] at hrm
              have hsum := hcnd
              rw [rk_sum_ok hG.1 hS1] at hsum
              rcases hkd with rfl | rfl
              · obtain ⟨q, hq, w1, w2, w4⟩ := hck1
                obtain ⟨M, hM, hM21, hmet⟩ := hcall f _ _ _ _ hcl1 q hq
                obtain ⟨m1, m2, m3, m4, m5, -⟩ := hmok f q M hq hM
                refine rk_back (as := v2.toArray) hA hG hl hL hS1 ?_ h kk
                exact va_runS hfix (hmet vals ws v2 H.size hG.1 ha1) ⟨callB_of n hts (rk_good hgw m4) rfl rfl rfl (hts _ m5) (hts _ w1) ⟨m3.1, m3.2, w4⟩ ⟨hfr, by show 8 + (M.2.1 + 11) + 40 * d ≤ R.locals; omega⟩, hts _ w2⟩ ⟨rk_blind hxo hxt, fun U hU hW => rk_pre hxo hxw hxt hXt hA hK hG U hU hW⟩ rfl hn hl.1 rfl (lv_room hsum) hdg hrm
              · obtain ⟨q, host, hq, w1, w2, w4⟩ := hck1
                obtain ⟨M, hM, hM21, hmet⟩ := hcall f _ _ _ _ hcl1 q hq
                obtain ⟨m1, m2, m3, m4, m5, -⟩ := hmok f q M hq hM
                refine rk_back (as := v2.toArray) hA hG hl hL hS1 ?_ h kk
                exact va_runSN hfix (hmet vals ws v2 H.size hG.1 ha1) ⟨va_cnB n hts (rk_good hgw m4) rfl rfl rfl (hxw _ w1) (hts _ m5) ⟨m3.1, m3.2, w4⟩ ⟨hfr, by show 8 + (M.2.1 + 11) + 40 * d ≤ R.locals; omega⟩, hts _ w2, trivial⟩ ⟨rk_blind hxo hxt, fun U hU hW => rk_pre hxo hxw hxt hXt hA hK hG U hU hW⟩ rfl hn hl.1 rfl (lv_room hsum) hdg hrm
          · cases h
        · cases h
      · cases h
    · cases h
  case invokespecial idx =>
    simp [rk_len] at hlen; subst hlen
    simp only [rk_call] at h
    split at h
    · next kd f n hlk1 =>
      split at h
      · next hkd =>
        split at h
        · next as j r hpop =>
          split at h
          · next hcnd =>
            cases hcl1 : call f (.inr (.inl j) :: as) env hp with
            | none => rw [hcl1] at h; cases h
            | some o =>
              rw [hcl1] at h
              obtain ⟨v2, r2, ha1, hr1, rfl, hn⟩ := rk_pop_ok n hpop (show rk_A2 (rk_g vals (ws.map Prod.fst)) [] [] from trivial) hS
              rw [List.append_nil] at ha1
              obtain ⟨vr, rest, rfl, hgr, hS1⟩ := hr1.cons
              obtain ⟨x, hjx, rfl⟩ := id hgr
              have hck1 := hck _ (rk_lk_mem hlk1)
              obtain ⟨qr, hqr, hr1, hr2⟩ := rk_after_ne h
              have hrm := hroom qr hqr
              rw [hr1, hr2] at hrm
              have hsum := hcnd
              rw [rk_sum_ok hG.1 hS1] at hsum
              rcases hkd with rfl | rfl
              · obtain ⟨q, hq, w0, w1, w2, w3, w4⟩ := hck1
                obtain ⟨M, hM, hM21, hmet⟩ := hcall f _ _ _ _ hcl1 q hq
                obtain ⟨m1, m2, m3, m4, m5, -⟩ := hmok f q M hq hM
                refine rk_back (as := (Value.ref x :: v2).toArray) hA hG hl hL hS1 ?_ h kk
                have hret : M.2.2.2.2.1 = none := w0 M hM
                rw [hret] at hmet m4
                exact va_runI hfix (hmet vals ws (.ref x :: v2) H.size hG.1 ⟨hgr, ha1⟩) ⟨callB_of n hts (rk_good hgw m4) rfl rfl rfl (hts _ m5) (hts _ w1) ⟨m3.1, m3.2, w4⟩ ⟨hfr, by show 8 + (M.2.1 + 11) + 40 * d ≤ R.locals; omega⟩, w3, hts _ w2⟩ ⟨rk_blind hxo hxt, fun U hU hW => rk_pre hxo hxw hxt hXt hA hK hG U hU hW⟩ rfl hn hl.1 rfl (lv_room hsum) hdg hrm
              · obtain ⟨q, host, hq, w0, w1, w2, w3, w4⟩ := hck1
                obtain ⟨M, hM, hM21, hmet⟩ := hcall f _ _ _ _ hcl1 q hq
                obtain ⟨m1, m2, m3, m4, m5, -⟩ := hmok f q M hq hM
                refine rk_back (as := (Value.ref x :: v2).toArray) hA hG hl hL hS1 ?_ h kk
                have hret : M.2.2.2.2.1 = none := w0 M hM
                rw [hret] at hmet m4
                exact va_runIN hfix (hmet vals ws (.ref x :: v2) H.size hG.1 ⟨hgr, ha1⟩) ⟨va_cnB n hts (rk_good hgw m4) rfl rfl rfl (hxw _ w1) (hts _ m5) ⟨m3.1, m3.2, w4⟩ ⟨hfr, by show 8 + (M.2.1 + 11) + 40 * d ≤ R.locals; omega⟩, w3, hts _ w2⟩ ⟨rk_blind hxo hxt, fun U hU hW => rk_pre hxo hxw hxt hXt hA hK hG U hU hW⟩ rfl hn hl.1 rfl (lv_room hsum) hdg hrm
          · cases h
        · cases h
      · split at h
        · next hkd =>
          subst hkd
          split at h
          · next j r =>
            split at h
            · next hcnd =>
              cases h
              obtain ⟨va, k1, rfl, ⟨x, hjx, rfl⟩, hSn⟩ := hS.cons; clear hS; have hS := hSn; clear hSn
              obtain ⟨w1, w2, w3⟩ := hck _ (rk_lk_mem hlk1)
              have hsum := hcnd
              rw [rk_sum_ok hG.1 hS] at hsum
              have hlr := lv_room (m := m) (pc := pc) (ls := ls) (rest := .ref x :: k1) hsum
              refine W.objInit hx hb hown (hts _ w1) (hts _ w2) (hts _ w3) rfl (by rw [hml]; exact hl.1) rfl hdg (by omega) (by omega) ?_
              exact kk _ (List.mem_singleton.mpr rfl) vals ws H locs ls _ lc hG hl hL hS
            · cases h
          · cases h
        · cases h
    · cases h
  all_goals (simp [rk_call] at h)
end RKL
end
section
/-! ===== rk: a call that sees a part of the world alone ===== -/
theorem rk_Met_imp {l : Launch} {y : MethodName} {ws : List Jvm.Cond} {rm : Room} {Pc Pc' : Array Value → State → Prop} {Qc Qc' : Array Value → State → Outcome → State → Prop} {mc ms : Nat} {free free' : Addr → Prop} (h : Met l y ws rm Pc Qc mc ms free) (h1 : ∀ a U, Pc' a U → Pc a U) (h2 : ∀ a st o t, Pc' a st → st.WarmedH t.vm → Qc a st o t → Qc' a st o t) (h3 : ∀ q, free q → free' q) : Met l y ws rm Pc' Qc' mc ms free' := by
  unfold Met at h ⊢
  refine MetFree.mono h h1 (fun _ _ _ _ _ z => z) (fun a st o t hP hQ => ?_)
  obtain ⟨hQ1, L, hL, hLf⟩ := hQ
  exact ⟨h2 a st o t hP hL.2.1 hQ1, L, hL, fun q hq => h3 _ (hLf q hq)⟩
theorem rk_look_map (g : rk_V → rk_V) (d : rk_V) (j : Nat) : ∀ ov : List (Nat × rk_V), rk_look (g d) (ov.map (fun z => (z.1, g z.2))) j = g (rk_look d ov j)
  | [] => rfl
  | q :: r => by
    show (if q.1 = j then g q.2 else rk_look (g d) (r.map (fun z => (z.1, g z.2))) j) = g (if q.1 = j then q.2 else rk_look d r j)
    by_cases e : q.1 = j
    · rw [if_pos e, if_pos e]
    · rw [if_neg e, if_neg e]
      exact rk_look_map g d j r
theorem rk_look_all {P : rk_V → Bool} {d : rk_V} (hd : P d = true) (j : Nat) : ∀ {ov : List (Nat × rk_V)}, ov.all (fun z => P z.2) = true → P (rk_look d ov j) = true
  | [], _ => hd
  | q :: r, h => by
    simp only [List.all_cons, Bool.and_eq_true] at h
    show P (if q.1 = j then q.2 else rk_look d r j) = true
    by_cases e : q.1 = j
    · rw [if_pos e]; exact h.1
    · rw [if_neg e]; exact rk_look_all hd j h.2
theorem rk_A2.mapL {α β : Type} {R R' : α → β → Prop} {g : α → α} {P : α → Bool} (H : ∀ a b, P a = true → R a b → R' (g a) b) : ∀ {l : List α} {l' : List β}, l.all P = true → rk_A2 R l l' → rk_A2 R' (l.map g) l' := by
  intro l
  induction l with
  | nil => intro l' _ h; rw [h.nil]; trivial
  | cons a l ih =>
    intro l' hp h
    obtain ⟨b, k, rfl, h1, h2⟩ := h.cons
    simp only [List.all_cons, Bool.and_eq_true] at hp
    exact ⟨H a b hp.1 h1, ih hp.2 h2⟩
theorem rk_A2.imp {α β : Type} {R R' : α → β → Prop} {P : α → Bool} (H : ∀ a b, P a = true → R a b → R' a b) : ∀ {l : List α} {l' : List β}, l.all P = true → rk_A2 R l l' → rk_A2 R' l l' := by
  intro l
  induction l with
  | nil => intro l' _ h; rw [h.nil]; trivial
  | cons a l ih =>
    intro l' hp h
    obtain ⟨b, k, rfl, h1, h2⟩ := h.cons
    simp only [List.all_cons, Bool.and_eq_true] at hp
    exact ⟨H a b hp.1 h1, ih hp.2 h2⟩
theorem rk_A2.drop {α β : Type} {R : α → β → Prop} : ∀ (n : Nat) {l : List α} {l' : List β}, rk_A2 R l l' → rk_A2 R (l.drop n) (l'.drop n)
  | 0, _, _, h => h
  | n + 1, [], _, h => by rw [h.nil]; trivial
  | n + 1, a :: l, _, h => by
    obtain ⟨b, k, rfl, h1, h2⟩ := h.cons
    exact rk_A2.drop n h2
theorem rk_A2.take {α β : Type} {R : α → β → Prop} : ∀ (n : Nat) {l : List α} {l' : List β}, rk_A2 R l l' → rk_A2 R (l.take n) (l'.take n)
  | 0, _, _, h => by simp [rk_A2]
  | n + 1, [], _, h => by rw [h.nil]; trivial
  | n + 1, a :: l, _, h => by
    obtain ⟨b, k, rfl, h1, h2⟩ := h.cons
    exact ⟨h1, rk_A2.take n h2⟩
theorem rk_c.map {U : State} {vals : List Value} {ads ads' : List Nat} {g : rk_V → rk_V} {P : rk_V → Bool} (H : ∀ a v, P a = true → rk_g vals ads a v → rk_g vals ads' (g a) v) {c : rk_H} {e : va_E} (hp : rk_alc P c = true) (h : rk_c U vals ads c e) : rk_c U vals ads' (rk_mpc g c) e := by
  rcases c with o | ⟨ty, n, d, ov⟩
  · obtain ⟨vs, e1, h1⟩ := h
    exact ⟨vs, e1, rk_A2.mapL H hp h1⟩
  · obtain ⟨cA, h1, h2, h3⟩ := h
    simp only [rk_alc, Bool.and_eq_true] at hp
    have key : ∀ j v, rk_g vals ads (rk_look d ov j) v → rk_g vals ads' (rk_look (g d) (ov.map (fun z => (z.1, g z.2))) j) v := fun j v hv => by
      rw [rk_look_map]
      exact H _ _ (rk_look_all hp.1 j hp.2) hv
    refine ⟨cA, h1, h2, ?_⟩
    cases ty <;> first
      | exact False.elim h3
      | (obtain ⟨f, e1, h4⟩ := h3; exact ⟨f, e1, fun j => key j _ (h4 j)⟩)
theorem rk_c.same {U : State} {vals : List Value} {ads ads' : List Nat} {P : rk_V → Bool} (H : ∀ a v, P a = true → rk_g vals ads a v → rk_g vals ads' a v) {c : rk_H} {e : va_E} (hp : rk_alc P c = true) (h : rk_c U vals ads c e) : rk_c U vals ads' c e := by
  rcases c with o | ⟨ty, n, d, ov⟩
  · obtain ⟨vs, e1, h1⟩ := h
    exact ⟨vs, e1, rk_A2.imp H hp h1⟩
  · obtain ⟨cA, h1, h2, h3⟩ := h
    simp only [rk_alc, Bool.and_eq_true] at hp
    refine ⟨cA, h1, h2, ?_⟩
    cases ty <;> first
      | exact False.elim h3
      | (obtain ⟨f, e1, h4⟩ := h3; exact ⟨f, e1, fun j => H _ _ (rk_look_all hp.1 j hp.2) (h4 j)⟩)
theorem rk_alc_tt (c : rk_H) : rk_alc (fun _ => true) c = true := by
  rcases c with c | c
  · exact List.all_eq_true.mpr (fun _ _ => rfl)
  · exact Bool.and_eq_true_iff.mpr ⟨rfl, List.all_eq_true.mpr (fun _ _ => rfl)⟩
theorem rk_g_up {vals : List Value} {adsA adsB : List Nat} {n : Nat} (hn : adsA.length = n) (a : rk_V) (v : Value) (_ : (fun _ : rk_V => true) a = true) (h : rk_g vals adsB a v) : rk_g vals (adsA ++ adsB) (rk_up n a) v := by
  rcases a with w | j | k | k
  · exact h
  · obtain ⟨x, hx, rfl⟩ := h
    exact ⟨x, by rw [List.getElem?_append_right (by omega), show j + n - adsA.length = j by omega]; exact hx, rfl⟩
  · exact h
  · exact h
theorem rk_g_dn {vals : List Value} {ads : List Nat} {n : Nat} (a : rk_V) (v : Value) (hg : rk_ge n a = true) (h : rk_g vals ads a v) : rk_g vals (ads.drop n) (rk_dn n a) v := by
  rcases a with w | j | k | k
  · exact h
  · obtain ⟨x, hx, rfl⟩ := h
    have hj : n ≤ j := of_decide_eq_true hg
    exact ⟨x, by rw [List.getElem?_drop, show n + (j - n) = j by omega]; exact hx, rfl⟩
  · exact h
  · exact h
theorem rk_g_tk {vals : List Value} {ads : List Nat} {n : Nat} (a : rk_V) (v : Value) (hg : rk_lt n a = true) (h : rk_g vals ads a v) : rk_g vals (ads.take n) a v := by
  rcases a with w | j | k | k
  · exact h
  · obtain ⟨x, hx, rfl⟩ := h
    have hj : j < n := of_decide_eq_true hg
    exact ⟨x, by rw [List.getElem?_take_of_lt hj]; exact hx, rfl⟩
  · exact h
  · exact h
theorem rk_nro_g {vals : List Value} {ads ads' : List Nat} {r : Option rk_V} {oc : Outcome} (hn : rk_nro r = true) (h : rk_ret r vals ads oc) : rk_ret r vals ads' oc := by
  rcases r with _ | a
  · exact h
  · obtain ⟨v, hg, e⟩ := h
    refine ⟨v, ?_, e⟩
    rcases a with w | j | k | k
    · exact hg
    · cases hn
    · exact hg
    · exact hg
section RKFR
variable {l : Launch} {D : va_G} {cl : List vw_C} {xt : rk_XT} {tbl xw : List Jvm.Cond} {MN : List rk_N} {P : List rk_M2}
theorem rk_P_drop {ws : va_W} {H : Heap} (n : Nat) (h : va_P D cl ws H) : va_P D cl (ws.drop n) H := fun k q hk => h (n + k) q (by rw [List.getElem?_drop] at hk; exact hk)
theorem rk_P_take {ws : va_W} {H : Heap} (n : Nat) (h : va_P D cl ws H) : va_P D cl (ws.take n) H := fun k q hk => h k q (by
  have hk1 : k < n := by
    have := (List.getElem?_eq_some_iff.mp hk).1
    rw [List.length_take] at this
    omega
  rw [List.getElem?_take_of_lt hk1] at hk
  exact hk)
theorem rk_D_drop {A : Nat → Prop} {ws : va_W} (n : Nat) (h : va_D A ws) : va_D A (ws.drop n) := ⟨fun i j p q hi hj e => by
    rw [List.getElem?_drop] at hi hj
    have := h.1 (n + i) (n + j) p q hi hj e
    omega, fun k q hk => h.2 (n + k) q (by rw [List.getElem?_drop] at hk; exact hk)⟩
theorem rk_tk {α : Type} {n k : Nat} {ws : List α} {q : α} (hk : (ws.take n)[k]? = some q) : k < n ∧ ws[k]? = some q := by
  have hk1 : k < n := by
    have := (List.getElem?_eq_some_iff.mp hk).1
    rw [List.length_take] at this
    omega
  rw [List.getElem?_take_of_lt hk1] at hk
  exact ⟨hk1, hk⟩
theorem rk_D_take {A : Nat → Prop} {ws : va_W} (n : Nat) (h : va_D A ws) : va_D A (ws.take n) := ⟨fun i j p q hi hj e => h.1 i j p q (rk_tk hi).2 (rk_tk hj).2 e, fun k q hk => h.2 k q (rk_tk hk).2⟩
set_option maxHeartbeats 4000000 in
theorem rk_suf_ok {call : Nat → List rk_V → List rk_T → List rk_H → Option rk_O} {d n : Nat} (hxt : rk_xtok xt) (hcall : rk_SC l D cl tbl xw xt MN P d call) : rk_SC l D cl tbl xw xt MN P d (rk_suf call n) := by
  intro f as env hp o h q hq
  unfold rk_suf at h
  split at h
  · next hc =>
    obtain ⟨hn, hc1, hc2⟩ := hc
    split at h
    · next o1 ho1 =>
      split at h
      · next hno =>
        cases h
        obtain ⟨M, hM, hM21, hmet⟩ := hcall f _ env _ o1 ho1 q hq
        refine ⟨M, hM, hM21, fun vals ws av sz hE hA2 => ?_⟩
        have hfree : ∀ q, va_A (ws.drop n) sz q → va_A ws sz q := by
          rintro q (⟨k, e1, hk⟩ | hq)
          · exact Or.inl ⟨n + k, e1, by rw [List.getElem?_drop] at hk; exact hk⟩
          · exact Or.inr hq
        refine rk_Met_imp (hmet vals (ws.drop n) av sz hE ?_) ?_ ?_ hfree
        · rw [List.map_drop]
          exact rk_A2.mapL (fun a v hP hg => rk_g_dn a v hP hg) hc1 hA2
        · rintro a U ⟨h1, h2, h3, h4, h5, h6, h7, h8⟩
          refine ⟨h1, h2, rk_P_drop n h3, h4, rk_D_drop n h5, ?_, h7, hxt.2.2.2 vals (va_A ws sz) (va_A (ws.drop n) sz) U U.heap U.heap h8 (fun _ _ _ => rfl) hfree⟩
          rw [List.map_drop]
          exact rk_A2.mapL (R := fun (c : rk_H) (q : Nat × va_E) => rk_c U vals (ws.map Prod.fst) c q.2) (R' := fun (c : rk_H) (q : Nat × va_E) => rk_c U vals ((ws.map Prod.fst).drop n) c q.2) (P := rk_alc (rk_ge n)) (fun c q hP hg => rk_c.map (fun a v => rk_g_dn a v) hP hg) hc2 (h6.drop n)
        · rintro a st oc t ⟨p1, p2, p3, p4, p5, p6, p7, p8⟩ hW ⟨⟨x, hx, vals', ws', ⟨kv, hv'⟩, ⟨k, hk⟩, hE', hC', hP', hD', hret⟩, hF⟩
          have hwl : n ≤ ws.length := by rw [← p6.len]; exact hn
          have hTl : (ws.take n).length = n := by rw [List.length_take]; omega
          have hads : (ws.take n ++ ws').map Prod.fst = ws.map Prod.fst ++ k := by rw [List.map_append, hk, ← List.append_assoc, ← List.map_append, List.take_append_drop]
          have hsz : ∀ (k9 : Nat) (z : Nat × va_E), ws[k9]? = some z → z.1 < sz := fun k9 z hz => by rw [← p2]; exact (p3 k9 z hz).lt
          have hout : ∀ (k9 : Nat) (z : Nat × va_E), (ws.take n)[k9]? = some z → ¬ va_A (ws.drop n) sz z.1 := by
            rintro k9 z hz (⟨k8, e8, hk8⟩ | hq8)
            · obtain ⟨a1, a2⟩ := rk_tk hz
              rw [List.getElem?_drop] at hk8
              have := p5.1 k9 (n + k8) z (z.1, e8) a2 hk8 rfl
              omega
            · have := hsz k9 z (rk_tk hz).2
              omega
          refine ⟨⟨_, List.mem_map.mpr ⟨x, hx, rfl⟩, vals', ws.take n ++ ws', ⟨kv, hv'⟩, ⟨k, hads⟩, hE', ?_, ?_, ?_, ?_⟩, hF.1, fun q9 h9 hn9 => hF.2 q9 h9 (fun z => hn9 (hfree q9 z))⟩
          · dsimp only
            rw [hads]
            refine rk_A2.app ?_ ((p6.take n).mono (fun c z hz => (hz.moved hW.alike).grow ⟨kv, hv'⟩ ⟨k, rfl⟩))
            rw [← hads, List.map_append]
            exact rk_A2.mapL (R := fun (c : rk_H) (q : Nat × va_E) => rk_c t vals' (ws'.map Prod.fst) c q.2) (R' := fun (c : rk_H) (q : Nat × va_E) => rk_c t vals' ((ws.take n).map Prod.fst ++ ws'.map Prod.fst) c q.2) (P := fun _ => true) (fun c z _ hz => rk_c.map (P := fun _ => true) (fun a v => rk_g_up (n := n) (by rw [List.length_map]; exact hTl) a v) (rk_alc_tt c) hz) (List.all_eq_true.mpr (fun _ _ => rfl)) hC'
          · exact ((rk_P_take n p3).kept (fun k9 z hz => hF.2 z.1 ((p3 k9 z (rk_tk hz).2).lt) (hout k9 z hz))).app hP'
          · refine va_D.app ((rk_D_take n p5).weaken (fun k9 z hz _ => Or.inl ⟨k9, z.2, (rk_tk hz).2⟩)) (hD'.weaken (fun _ _ _ z => hfree _ z)) (fun i j a1 a2 hi hj e9 => ?_)
            exact hout i a1 hi (e9 ▸ hD'.2 j a2 hj)
          · exact rk_nro_g (List.all_eq_true.mp hno x hx) hret
      · cases h
    · cases h
  · cases h
set_option maxHeartbeats 4000000 in
theorem rk_pfx_ok {call : Nat → List rk_V → List rk_T → List rk_H → Option rk_O} {d n : Nat} (hxt : rk_xtok xt) (hcall : rk_SC l D cl tbl xw xt MN P d call) : rk_SC l D cl tbl xw xt MN P d (rk_pfx call n) := by
  intro f as env hp o h q hq
  unfold rk_pfx at h
  split at h
  · next hc =>
    obtain ⟨hn, hc1, hc2⟩ := hc
    split at h
    · next o1 ho1 =>
      split at h
      · next hno =>
        cases h
        obtain ⟨M, hM, hM21, hmet⟩ := hcall f _ env _ o1 ho1 q hq
        refine ⟨M, hM, hM21, fun vals ws av sz hE hA2 => ?_⟩
        have hfree : ∀ q, va_A (ws.take n) sz q → va_A ws sz q := by
          rintro q (⟨k, e1, hk⟩ | hq)
          · exact Or.inl ⟨k, e1, (rk_tk hk).2⟩
          · exact Or.inr hq
        refine rk_Met_imp (hmet vals (ws.take n) av sz hE ?_) ?_ ?_ hfree
        · rw [List.map_take]
          exact rk_A2.imp (fun a v hP hg => rk_g_tk a v hP hg) hc1 hA2
        · rintro a U ⟨h1, h2, h3, h4, h5, h6, h7, h8⟩
          refine ⟨h1, h2, rk_P_take n h3, h4, rk_D_take n h5, ?_, h7, hxt.2.2.2 vals (va_A ws sz) (va_A (ws.take n) sz) U U.heap U.heap h8 (fun _ _ _ => rfl) hfree⟩
          rw [List.map_take]
          exact rk_A2.imp (R := fun (c : rk_H) (q : Nat × va_E) => rk_c U vals (ws.map Prod.fst) c q.2) (R' := fun (c : rk_H) (q : Nat × va_E) => rk_c U vals ((ws.map Prod.fst).take n) c q.2) (P := rk_alc (rk_lt n)) (fun c q hP hg => rk_c.same (fun a v => rk_g_tk a v) hP hg) hc2 (h6.take n)
        · rintro a st oc t ⟨p1, p2, p3, p4, p5, p6, p7, p8⟩ hW ⟨⟨x, hx, vals', ws', ⟨kv, hv'⟩, ⟨k, hk⟩, hE', hC', hP', hD', hret⟩, hF⟩
          have hwl : n ≤ ws.length := by rw [← p6.len]; exact hn
          have hTl : (ws.take n).length = n := by rw [List.length_take]; omega
          have hxl : x.2.2.1.length = n := of_decide_eq_true (List.all_eq_true.mp hno x hx)
          have hk0 : k = [] := by
            have h1 : ws'.length = n := by rw [← hC'.len]; exact hxl
            have h2 : (ws'.map Prod.fst).length = ((ws.take n).map Prod.fst ++ k).length := by rw [hk]
            rw [List.length_append, List.length_map, List.length_map, hTl, h1] at h2
            exact List.length_eq_zero_iff.mp (by omega)
          rw [hk0, List.append_nil] at hk
          have hads : (ws' ++ ws.drop n).map Prod.fst = ws.map Prod.fst := by rw [List.map_append, hk, ← List.map_append, List.take_append_drop]
          have hsz : ∀ (k9 : Nat) (z : Nat × va_E), ws[k9]? = some z → z.1 < sz := fun k9 z hz => by rw [← p2]; exact (p3 k9 z hz).lt
          have hout : ∀ (k9 : Nat) (z : Nat × va_E), (ws.drop n)[k9]? = some z → ¬ va_A (ws.take n) sz z.1 := by
            rintro k9 z hz (⟨k8, e8, hk8⟩ | hq8)
            · obtain ⟨a1, a2⟩ := rk_tk hk8
              rw [List.getElem?_drop] at hz
              have := p5.1 (n + k9) k8 z (z.1, e8) hz a2 rfl
              omega
            · rw [List.getElem?_drop] at hz
              have := hsz _ z hz
              omega
          refine ⟨⟨_, List.mem_map.mpr ⟨x, hx, rfl⟩, vals', ws' ++ ws.drop n, ⟨kv, hv'⟩, ⟨[], by rw [hads, List.append_nil]⟩, hE', ?_, ?_, ?_, ?_⟩, hF.1, fun q9 h9 hn9 => hF.2 q9 h9 (fun z => hn9 (hfree q9 z))⟩
          · dsimp only
            rw [hads]
            refine rk_A2.app ((p6.drop n).mono (fun c z hz => (hz.moved hW.alike).grow ⟨kv, hv'⟩ ⟨[], by simp⟩)) ?_
            exact hC'.mono (fun c z hz => hz.grow ⟨[], by simp⟩ ⟨(ws.drop n).map Prod.fst, by rw [hk, ← List.map_append, List.take_append_drop]⟩)
          · exact hP'.app ((rk_P_drop n p3).kept (fun k9 z hz => hF.2 z.1 ((rk_P_drop n p3 k9 z hz).lt) (hout k9 z hz)))
          · refine va_D.app (hD'.weaken (fun _ _ _ z => hfree _ z)) ((rk_D_drop n p5).weaken (fun k9 z hz _ => Or.inl ⟨n + k9, z.2, by rw [List.getElem?_drop] at hz; exact hz⟩)) (fun i j a1 a2 hi hj e9 => ?_)
            exact hout j a2 hj (e9 ▸ hD'.2 i a1 hi)
          · cases hr : x.1 with
            | none => rw [hr] at hret; exact hret
            | some r1 =>
              rw [hr] at hret
              obtain ⟨v, hg, e⟩ := hret
              exact ⟨v, hg.grow ⟨[], by simp⟩ ⟨(ws.drop n).map Prod.fst, by rw [List.map_append]⟩, e⟩
      · cases h
    · cases h
  · cases h
/-- a call on the newest cell alone sees that cell alone -/
theorem rk_wrap_ok {call : Nat → List rk_V → List rk_T → List rk_H → Option rk_O} {d : Nat} (hxt : rk_xtok xt) (hcall : rk_SC l D cl tbl xw xt MN P d call) : rk_SC l D cl tbl xw xt MN P d (rk_wrap call) := by
  intro f as env hp o h q hq
  unfold rk_wrap at h
  split at h
  · split at h
    · split at h
      · next o1 ho1 =>
        cases h
        exact rk_suf_ok hxt hcall f _ env hp o ho1 q hq
      · exact hcall f _ env hp o h q hq
    · exact hcall f _ env hp o h q hq
  · exact hcall f _ env hp o h q hq
end RKFR
end
section
theorem rk_lgsl : ∀ (av : List Value), (lg_sl av).length = (av.map fun v => v.category).sum
  | [] => rfl
  | v :: av => by
    have e : lg_sl (v :: av) = (if v.category = 2 then [Slot.val v, .second] else [.val v]) ++ lg_sl av := rfl
    rw [e, List.length_append, rk_lgsl av]
    rcases lv_cat v with z | z <;> simp [z]
section RKT
variable {p : Program} {l : Launch} {e : Env} {R : Room} {s : State} {m : MethodId} {args : Array Value} {below : List Frame} {meth : Method} {c : Code} {Q : State → Prop} {cc : ByteArray} {D : va_G} {cl : List vw_C} {Ad : Nat → Prop} {nL : Nat} {vals0 : List Value} {ads0 : List Nat}
variable {xt : rk_XT} {tbl xw : List Jvm.Cond} {fty : rk_F} {cln : List String} {MN : List rk_N} {mci : List Nat} {P : List rk_M2}
theorem rk_each_ok {K : rk_K} {a : rk_V} {pc : Nat} {lo : List (Nat × rk_V)} {sk : List rk_V} {env : List rk_T} {hp : List rk_H} {nc ns : Nat} {vals : List Value} {ads : List Nat} {x : Int32} (hE : rk_E env vals) (ga : rk_g vals ads a (.int x)) : ∀ (n : Nat) (v : Int), v ≤ x.toInt → x.toInt < v + n → ∃ env', rk_E env' vals ∧ (pc, (lo, sk, env', hp, nc, ns)) ∈ rk_each a pc lo sk env hp nc ns v n := by
  intro n
  induction n with
  | zero => intro v h1 h2; omega
  | succ n ih =>
    intro v h1 h2
    by_cases e : x.toInt = v
    · obtain ⟨e2, q1, q2⟩ := rk_cut_ok (lo := v) (hi := v) hE ga (by omega) (by omega)
      exact ⟨e2, q2, List.mem_append_left _ (rk_opt_mem q1 _ lo sk hp nc ns)⟩
    · obtain ⟨e2, q1, q2⟩ := ih (v + 1) (by omega) (by omega)
      exact ⟨e2, q1, List.mem_append_right _ q2⟩
theorem rk_split_ok {K : rk_K} {pc : Nat} {ins : Instr} {st : rk_S} {res : List (Nat × rk_S)} (h : rk_split pc ins st = some res) (kk : ∀ q ∈ res, rk_W K s D cl Ad nL vals0 ads0 q.1 q.2) : rk_W K s D cl Ad nL vals0 ads0 pc st := by
  obtain ⟨lo, sk, env, hp, nc, ns⟩ := st
  intro vals ws H locs ls stk lc hG hl hL hS
  dsimp only at hG hL hS ⊢
  unfold rk_split at h
  split at h
  · next a ha =>
    split at h
    · next I hI =>
      split at h
      · next hc =>
        cases h
        have hin : ∃ k : Nat, sk[k]? = some a := by
          unfold rk_which at ha
          split at ha
          all_goals first
            | exact ⟨_, ha⟩
            | cases ha
        obtain ⟨k, hk⟩ := hin
        obtain ⟨v, hv, hg⟩ := hS.get hk
        obtain ⟨x, rfl, h1, h2⟩ := rk_iv_ok hG.1 hg hI
        obtain ⟨e2, q1, q2⟩ := rk_each_ok (K := K) (pc := pc) (lo := lo) (sk := sk) (hp := hp) (nc := nc) (ns := ns) hG.1 hg (I.2 - I.1 + 1).toNat I.1 h1 (by omega)
        exact kk _ q2 vals ws H locs ls stk lc (hG.env0 q1) hl hL hS
      · cases h
    · cases h
  · cases h
theorem rk_pre0_ok {K : rk_K} {pc : Nat} {ins : Instr} {st : rk_S} {res : List (Nat × rk_S)} (h : rk_pre0 pc ins st = some res) (kk : ∀ q ∈ res, rk_W K s D cl Ad nL vals0 ads0 q.1 q.2) : rk_W K s D cl Ad nL vals0 ads0 pc st := by
  obtain ⟨lo, sk, env, hp, nc, ns⟩ := st
  intro vals ws H locs ls stk lc hG hl hL hS
  dsimp only at hG hL hS ⊢
  unfold rk_pre0 at h
  split at h
  · dsimp only at h
    split at h
    · next y k r =>
      obtain ⟨v1, k1, rfl, g1, hS1⟩ := hS.cons
      obtain ⟨v2, k2, rfl, ⟨x, hx, rfl⟩, hS2⟩ := hS1.cons
      split at h
      · next I hI =>
        obtain ⟨x', e', h1, h2⟩ := rk_iv_ok hG.1 (show rk_g vals (ws.map Prod.fst) (.inr (.inr (.inl k))) (.int x) from hx) hI
        cases e'
        split at h
        · next e =>
          cases h
          refine kk _ (List.mem_singleton.mpr rfl) vals ws H locs ls _ lc hG hl hL ⟨g1, ?_, hS2⟩
          show Value.long x.toInt64 = Value.long (Int32.ofInt I.1).toInt64
          rw [show I.1 = x.toInt by omega, Int32.ofInt_toInt]
        · split at h
          · cases h
            obtain ⟨e2, q1, q2⟩ := rk_each_ok (K := K) (pc := pc) (lo := lo) (sk := .inl (.long y) :: .inr (.inr (.inr k)) :: r) (hp := hp) (nc := nc) (ns := ns) hG.1 (show rk_g vals (ws.map Prod.fst) (.inr (.inr (.inl k))) (.int x) from hx) (I.2 - I.1 + 1).toNat I.1 h1 (by omega)
            exact kk _ q2 vals ws H locs ls _ lc (hG.env0 q1) hl hL hS
          · cases h
      · cases h
    · cases h
  · cases h
theorem rk_step_ok (hxt : rk_xtok xt) (hXt : xt vals0 Ad s s.heap) (hok : rk_ok tbl xw cl fty cln MN mci P) (hx : p.tables.exec = Jvm.exec) (hb : c.code = cc) {M : rk_M2} (hml : c.maxLocals = M.2.1) {own : String} (hF : rk_Fr s m args meth D cl Ad tbl xw fty cln own M.2.2.1 M.2.2.2.1) (hck : ∀ r ∈ M.2.2.1, rk_cok tbl xw MN P own r) (hkk : ∀ r ∈ M.2.2.1, rk_kok tbl own r) {d : Nat} {call : Nat → List rk_V → List rk_T → List rk_H → Option rk_O} (hcall : rk_SC l D cl tbl xw xt MN P d call) {ext : rk_Ext} (hext : ∀ (pc : Nat) (ins : Instr) (len : Nat) (st : rk_S) (res : List (Nat × rk_S)), decode cc pc = .ok (ins, len) → rk_len ins len = true → ext pc ins st = some res → (∀ q ∈ res, q.2.2.2.2.2.1 ≤ R.cells ∧ q.2.2.2.2.2.2 ≤ R.slots) → (∀ q ∈ res, rk_W (rk_KW p l e R s m args below meth c Q) s D cl Ad M.2.1 vals0 ads0 q.1 q.2) → rk_W (rk_KW p l e R s m args below meth c Q) s D cl Ad M.2.1 vals0 ads0 pc st) (hfr : d + 1 ≤ R.frames) (hlo : 40 * (d + 1) ≤ R.locals) {pc : Nat} {ins : Instr} {len : Nat} {st : rk_S} {res : List (Nat × rk_S)} (hdg : decode cc pc = .ok (ins, len)) (hlen : rk_len ins len = true) (h : rk_step fty cln mci call ext M pc ins st = some res) (hroom : ∀ q ∈ res, q.2.2.2.2.2.1 ≤ R.cells ∧ q.2.2.2.2.2.2 ≤ R.slots) (kk : ∀ q ∈ res, rk_W (rk_KW p l e R s m args below meth c Q) s D cl Ad M.2.1 vals0 ads0 q.1 q.2) : rk_W (rk_KW p l e R s m args below meth c Q) s D cl Ad M.2.1 vals0 ads0 pc st := by
  unfold rk_step at h
  split at h
  · next r hr => cases h; exact hext pc ins len st _ hdg hlen hr hroom kk
  split at h
  · next r hr => cases h; exact rk_pre0_ok hr kk
  split at h
  · next r hr => cases h; exact rk_pure_ok hx hb hdg hlen hr kk
  · split at h
    · next r hr => cases h; exact rk_pure2_ok hx hb hdg hlen hr kk
    · split at h
      · next r hr => cases h; exact rk_heap_ok hx hb hF hdg hlen hr hroom kk
      · split at h
        · next r hr => cases h; exact rk_call_ok hxt hXt hok hx hb hml hF hck hcall hfr hlo hdg hlen hr hroom kk
        · split at h
          · next r hr => cases h; exact rk_copy_ok hx hb hml hF hkk (by omega) (by omega) hdg hlen hr kk
          · split at h
            · next r hr => cases h; exact rk_split_ok hr kk
            · exact rk_math_ok hx hb hml hF (by omega) (by omega) hdg hlen h hroom kk
set_option maxHeartbeats 4000000 in
theorem rk_loop_ok (hxt : rk_xtok xt) (hXt : xt vals0 Ad s s.heap) (hok : rk_ok tbl xw cl fty cln MN mci P) (hx : p.tables.exec = Jvm.exec) (hb : c.code = cc) {M : rk_M2} (hml : c.maxLocals = M.2.1) (hins : ∀ r ∈ M.1, decode cc r.1 = .ok r.2) {own : String} (hF : rk_Fr s m args meth D cl Ad tbl xw fty cln own M.2.2.1 M.2.2.2.1) (hck : ∀ r ∈ M.2.2.1, rk_cok tbl xw MN P own r) (hkk : ∀ r ∈ M.2.2.1, rk_kok tbl own r) {d : Nat} {call : Nat → List rk_V → List rk_T → List rk_H → Option rk_O} (hcall : rk_SC l D cl tbl xw xt MN P d call) {ext : rk_Ext} (hext : ∀ (pc : Nat) (ins : Instr) (len : Nat) (st : rk_S) (res : List (Nat × rk_S)), decode cc pc = .ok (ins, len) → rk_len ins len = true → ext pc ins st = some res → (∀ q ∈ res, q.2.2.2.2.2.1 ≤ R.cells ∧ q.2.2.2.2.2.2 ≤ R.slots) → (∀ q ∈ res, rk_W (rk_KW p l e R s m args below meth c Q) s D cl Ad M.2.1 vals0 ads0 q.1 q.2) → rk_W (rk_KW p l e R s m args below meth c Q) s D cl Ad M.2.1 vals0 ads0 pc st) (hfr : d + 1 ≤ R.frames) (hlo : 40 * (d + 1) ≤ R.locals) {XS : List rk_X}
    (hend : ∀ (pc : Nat) (ins : Instr) (len : Nat) (st : rk_S) (x : rk_X), decode cc pc = .ok (ins, len) → rk_len ins len = true → rk_end M.2.2.2.2.1 ins st = some (some x) → x ∈ XS → st.2.2.2.2.1 ≤ R.cells → st.2.2.2.2.2 ≤ R.slots → rk_W (rk_KW p l e R s m args below meth c Q) s D cl Ad M.2.1 vals0 ads0 pc st) :
    ∀ (n : Nat) (q : Nat × rk_S) (o : rk_O), rk_loop fty cln mci call ext M n q = some o → (∀ x ∈ o.2.2, x ∈ XS) → o.1 ≤ R.cells → o.2.1 ≤ R.slots → rk_W (rk_KW p l e R s m args below meth c Q) s D cl Ad M.2.1 vals0 ads0 q.1 q.2 := by
  intro n
  induction n with
  | zero => intro q o h; cases h
  | succ n ih =>
    intro q o h hXS hmc hms
    unfold rk_loop at h
    split at h
    · cases h
    · next il hft =>
      have hdg := hins _ (rk_fetch_mem hft)
      split at h
      · next hlen =>
        split at h
        · next x hx1 =>
          cases h
          exact hend q.1 il.1 il.2 q.2 x hdg hlen hx1 (hXS _ (List.mem_singleton.mpr rfl)) hmc hms
        · cases h
        · split at h
          · next succ hsucc =>
            split at h
            · next o1 ho1 =>
              cases h
              have hcb := rk_comb_ok ho1
              have hm1 : o1.1 ≤ R.cells := Nat.le_trans (Nat.le_max_right _ _) hmc
              have hm2 : o1.2.1 ≤ R.slots := Nat.le_trans (Nat.le_max_right _ _) hms
              refine rk_step_ok hxt hXt hok hx hb hml hF hck hkk hcall hext hfr hlo hdg hlen hsucc (fun z hz => ?_) (fun z hz => ?_)
              · obtain ⟨o2, q1, q2, q3, q4⟩ := hcb z hz
                have := rk_loop_ge q1
                exact ⟨Nat.le_trans this.1 (Nat.le_trans q2 hm1), Nat.le_trans this.2 (Nat.le_trans q3 hm2)⟩
              · obtain ⟨o2, q1, q2, q3, q4⟩ := hcb z hz
                exact ih z o2 q1 (fun x hx => hXS _ (q4 x hx)) (Nat.le_trans q2 hm1) (Nat.le_trans q3 hm2)
            · cases h
          · cases h
      · cases h
set_option maxHeartbeats 4000000 in
/-- a method's end, by its contract -/
theorem rk_end_ok (hx : p.tables.exec = Jvm.exec) (hb : c.code = cc) (hlocks : meth.locks = false) {ret : Option FieldType} (hr : meth.sig.returnType = ret) {XS : List rk_X} {pc : Nat} {ins : Instr} {len : Nat} {st : rk_S} {x : rk_X} (hdg : decode cc pc = .ok (ins, len)) (hlen : rk_len ins len = true) (h : rk_end ret ins st = some (some x)) (hXS : x ∈ XS) (hmc : st.2.2.2.2.1 ≤ R.cells) (hms : st.2.2.2.2.2 ≤ R.slots) : rk_W (rk_KW p l e R s m args below meth c (MQ below (rk_Post D cl XS vals0 ads0 Ad) args s R.cells R.slots Ad)) s D cl Ad nL vals0 ads0 pc st := by
  obtain ⟨lo, sk, env, hp, nc, ns⟩ := st
  unfold rk_end at h
  split at h
  · split at h
    · next hsk =>
      cases h
      simp [rk_len] at hlen; subst hlen
      intro vals ws H locs ls stk lc hG hl hL hS
      dsimp only at hsk hG hL hS hmc hms ⊢
      subst hsk
      have hnil := hS.nil
      subst hnil
      refine W.widen (k := R.cells) (n := R.slots) hmc hms ?_
      exact W.vret hx hb hr (fun t ht hW => ⟨⟨_, hXS, vals, ws, hG.2.2.2.2.2.1, hG.2.2.2.2.2.2, hG.1, hG.2.1.mono (fun _ _ h => h.moved hW.alike), by rw [ht]; exact hG.2.2.1, hG.2.2.2.1, rfl⟩, hG.2.2.2.2.1.F ht⟩) hG.2.2.2.2.1.2.2 hdg
    · cases h
  · split at h
    · next a hsk =>
      split at h
      · next hro =>
        cases h
        simp [rk_len] at hlen; subst hlen
        intro vals ws H locs ls stk lc hG hl hL hS
        dsimp only at hsk hG hL hS hmc hms hro ⊢
        subst hsk
        obtain ⟨v, k, rfl, hg, hSn⟩ := hS.cons; clear hS; have hS := hSn; clear hSn
        have hnil := hS.nil
        subst hnil
        refine W.widen (k := R.cells) (n := R.slots) hmc hms ?_
        have hpost : ∀ t : State, t.heap = H → s.WarmedH t.vm → rk_Post D cl XS vals0 ads0 Ad args s (.returned (some v)) t := fun t ht hW => ⟨⟨_, hXS, vals, ws, hG.2.2.2.2.2.1, hG.2.2.2.2.2.2, hG.1, hG.2.1.mono (fun _ _ h => h.moved hW.alike), by rw [ht]; exact hG.2.2.1, hG.2.2.2.1, v, hg, rfl⟩, hG.2.2.2.2.1.F ht⟩
        obtain ⟨hro, hnl⟩ := hro
        unfold rk_rok at hro
        split at hro
        · obtain ⟨I, hI⟩ := Option.isSome_iff_exists.mp hro
          obtain ⟨x, rfl, -, -⟩ := rk_iv_ok hG.1 hg hI
          exact W.iret hx hb hr hpost hG.2.2.2.2.1.2.2 hdg
        · have hfit := rk_fit_ok hG.1 hg hro
          unfold rk_fit at hro
          dsimp only at hro
          split at hro
          · next I hI =>
            obtain ⟨x, rfl, -, -⟩ := rk_iv_ok hG.1 hg hI
            exact W.zret (ty := .boolean) hx hb hr hfit.1 hpost hG.2.2.2.2.1.2.2 hdg
          · cases hro
        · exact absurd rfl hnl
        · cases hro
      · cases h
    · cases h
  · split at h
    · next a hsk =>
      split at h
      · next hro =>
        cases h
        simp [rk_len] at hlen; subst hlen
        intro vals ws H locs ls stk lc hG hl hL hS
        dsimp only at hsk hG hL hS hmc hms hro ⊢
        subst hsk
        obtain ⟨v, k, rfl, hg, hSn⟩ := hS.cons; clear hS; have hS := hSn; clear hSn
        have hnil := hS.nil
        subst hnil
        refine W.widen (k := R.cells) (n := R.slots) hmc hms ?_
        have hpost : ∀ t : State, t.heap = H → s.WarmedH t.vm → rk_Post D cl XS vals0 ads0 Ad args s (.returned (some v)) t := fun t ht hW => ⟨⟨_, hXS, vals, ws, hG.2.2.2.2.2.1, hG.2.2.2.2.2.2, hG.1, hG.2.1.mono (fun _ _ h => h.moved hW.alike), by rw [ht]; exact hG.2.2.1, hG.2.2.2.1, v, hg, rfl⟩, hG.2.2.2.2.1.F ht⟩
        obtain ⟨hro, hnl⟩ := hro
        rw [hnl] at hro
        obtain ⟨x, rfl⟩ := rk_isL_ok hG.1 hg hro
        exact W.lret hx hb (by rw [hr]; exact hnl) hpost hG.2.2.2.2.1.2.2 hdg
      · cases h
    · cases h
  · cases h
theorem rk_run_ok (l : Launch) (D : va_G) (hxt : rk_xtok xt) (hok : rk_ok tbl xw cl fty cln MN mci P) {sum : Nat → Nat → List rk_V → List rk_T → List rk_H → Option rk_O} (hsum : ∀ d : Nat, rk_SC l D cl tbl xw xt MN P (d + 1) (sum d)) (fuel : Nat) : ∀ d : Nat, rk_SC l D cl tbl xw xt MN P d (rk_run P fty cln mci sum fuel d) := by
  intro d
  induction d with
  | zero => intro f as env hp o h; cases h
  | succ d ih =>
    intro f as env hp o h q hq
    unfold rk_run at h
    split at h
    · next o1 ho1 =>
      cases h
      exact hsum d f as env hp o ho1 q hq
    split at h
    · next M hM =>
      split at h
      · next hc =>
        refine ⟨M, hM, hc.1, fun vals ws av sz hE hA2 => ?_⟩
        obtain ⟨hgw, hxo, hcl, hac, hlenM, hmok, hmci⟩ := id hok
        obtain ⟨m1, m2, m3, m4, m5, m6, m7, m8, m9⟩ := hmok f q M hq hM
        refine Met.ofW (cc := q.2.2) (maxL := M.2.1) (ret := M.2.2.2.2.1) m1 rfl ?_
        intro p e s m args below meth c s₁ B hml hv
        obtain ⟨rfl, hsz, hP, hK, hD0, hC, hxw, hXt⟩ := hv
        have hts0 := atoms_spec (ws := Jvm.Cond.code q.2.1 q.2.2 M.2.1 M.2.2.2.2.1 :: tbl) B.pre
        have hts : ∀ w ∈ tbl, w.before av.toArray s = true := fun w hw => hts0 w (List.mem_cons_of_mem _ hw)
        have hown : s.vm.findClass q.1 = some m.cls := by rw [← m2]; exact findClass_of_methodNamed B.named
        have hnm : meth.name = q.2.1.name := (name_of_methodNamed B.named B.method).1
        subst hsz
        have hF : rk_Fr s m av.toArray meth D cl (va_A ws s.heap.size) tbl xw fty cln q.1 M.2.2.1 M.2.2.2.1 := ⟨hts, hxw, hown, hK, fun z hz => Or.inr hz, hcl, fun r hr => (m7 r hr).1, fun hz => by rw [hnm]; exact m8 hz, hac, m9⟩
        have key := rk_loop_ok (l := l) (p := p) (e := e) (R := (headSpec (Jvm.Cond.code q.2.1 q.2.2 M.2.1 M.2.2.2.2.1 :: tbl) { frames := d + 1, cells := o.1, slots := o.2.1, locals := 40 * (d + 1) }).room) (below := below) (vals0 := vals) (ads0 := ws.map Prod.fst) hxt hXt hok B.exec B.bytes hml m6 hF (fun r hr => (m7 r hr).2.1) (fun r hr => (m7 r hr).2.2) (rk_wrap_ok hxt ih) (ext := fun _ _ _ => none) (fun _ _ _ _ _ _ _ z => by cases z) (Nat.le_refl _) (Nat.le_refl _) (XS := o.2.2) (fun pc ins len st x a1 a2 a3 a4 a5 a6 => rk_end_ok B.exec B.bytes B.notSynchronized B.returns a1 a2 a3 a4 a5 a6) fuel _ o h (fun x hx => hx) (Nat.le_refl _) (Nat.le_refl _)
        have hlen : (lg_sl av).length ≤ M.2.1 := by
          rw [rk_lgsl, ← rk_sum_ok hE hA2]
          exact hc.2
        have hl := lv_entry av (n := M.2.1) hlen
        rw [lg_entry_eq]
        exact key vals ws s.heap [] _ [] _ ⟨hE, hC, hP, hD0.self, va_S.rf, ⟨[], by simp⟩, ⟨[], by simp⟩⟩ hl (rk_args_ok hE 0 hA2) trivial
      · cases h
    · cases h
end RKT
end
section
/-! ===== rk: the law's frame: the script's ints are the symbols 0 to 5, the script the symbol 6, its length the symbol 7 ===== -/
def rk_lawx : rk_Ext := fun pc ins st =>
  let lo := st.1; let sk := st.2.1; let env := st.2.2.1; let hp := st.2.2.2.1; let nc := st.2.2.2.2.1; let ns := st.2.2.2.2.2
  match ins with
  | .aload_n k => match rk_ld lo k with
    | some (.inr (.inr (.inl 6))) => some [(pc + 1, (lo, .inr (.inr (.inl 6)) :: sk, env, hp, nc, ns))]
    | _ => none
  | .arraylength => match sk with
    | .inr (.inr (.inl 6)) :: r => some [(pc + 1, (lo, rk_norm env (.inr (.inr (.inl 7))) :: r, env, hp, nc, ns))]
    | _ => none
  | .iaload => match sk with
    | ix :: .inr (.inr (.inl 6)) :: r => match rk_ix env ix 6, rk_iv env (.inr (.inr (.inl 7))) with
      | some i, some J => if 6 ≤ J.1 then some [(pc + 1, (lo, rk_norm env (.inr (.inr (.inl i))) :: r, env, hp, nc, ns))] else none
      | _, _ => none
    | _ => none
  | _ => none
section RKX
variable {p : Program} {l : Launch} {e : Env} {R : Room} {s : State} {m : MethodId} {args : Array Value} {below : List Frame} {meth : Method} {c : Code} {Q : State → Prop} {cc : ByteArray} {D : va_G} {cl : List vw_C} {Ad : Nat → Prop} {nL : Nat} {ads0 : List Nat} {b L : Nat} {xs : Nat → Int32}
def rk_v0 (b L : Nat) (xs : Nat → Int32) : List Value := [.int (xs 0), .int (xs 1), .int (xs 2), .int (xs 3), .int (xs 4), .int (xs 5), .ref b, .int (Int32.ofNat L)]
theorem rk_v0_at {vals : List Value} (h : ∃ k, vals = rk_v0 b L xs ++ k) {i : Nat} {v : Value} (hi : (rk_v0 b L xs)[i]? = some v) : vals[i]? = some v := by
  obtain ⟨k, rfl⟩ := h
  rw [List.getElem?_append_left (List.getElem?_eq_some_iff.mp hi).1]
  exact hi
theorem rk_v0_x {i : Nat} (hi : i < 6) : (rk_v0 b L xs)[i]? = some (.int (xs i)) := by
  match i, hi with
  | 0, _ => rfl
  | 1, _ => rfl
  | 2, _ => rfl
  | 3, _ => rfl
  | 4, _ => rfl
  | 5, _ => rfl
set_option maxHeartbeats 4000000 in
theorem rk_lawx_ok (hx : p.tables.exec = Jvm.exec) (hb : c.code = cc) (hX : va_X b L xs s s.heap) (hbl : b < s.heap.size) (hbA : ¬ Ad b) (hL : L < 2147483648) (pc : Nat) (ins : Instr) (len : Nat) (st : rk_S) (res : List (Nat × rk_S)) (hdg : decode cc pc = .ok (ins, len)) (hlen : rk_len ins len = true) (h : rk_lawx pc ins st = some res) (kk : ∀ q ∈ res, rk_W (rk_KW p l e R s m args below meth c Q) s D cl Ad nL (rk_v0 b L xs) ads0 q.1 q.2) : rk_W (rk_KW p l e R s m args below meth c Q) s D cl Ad nL (rk_v0 b L xs) ads0 pc st := by
  obtain ⟨lo, sk, env, hp, nc, ns⟩ := st
  intro vals ws H locs ls stk lc hG hl hL2 hS
  dsimp only at hG hL2 hS ⊢
  have hpre := hG.2.2.2.2.2.1
  have h6 : rk_g vals (ws.map Prod.fst) (.inr (.inr (.inl 6))) (.ref b) := rk_v0_at hpre rfl
  have h7 : rk_g vals (ws.map Prod.fst) (.inr (.inr (.inl 7))) (.int (Int32.ofNat L)) := rk_v0_at hpre rfl
  cases ins
  case aload_n k =>
    simp [rk_len] at hlen; subst hlen
    simp only [rk_lawx] at h
    split at h
    · next ha =>
      cases h
      obtain ⟨v, hv, hg⟩ := rk_ld_ok hL2 ha
      have ev : v = .ref b := Option.some.inj ((show vals[6]? = some v from hg).symm.trans h6)
      subst ev
      exact lv_aload_n hx hb hdg rfl (hl.2.2 _ hv) (kk _ (List.mem_singleton.mpr rfl) vals ws H locs ls _ lc hG hl hL2 ⟨hg, hS⟩)
    · cases h
  case arraylength =>
    simp [rk_len] at hlen; subst hlen
    simp only [rk_lawx] at h
    split at h
    · next r =>
      cases h
      obtain ⟨v, k1, rfl, hg, hSn⟩ := hS.cons; clear hS; have hS := hSn; clear hSn
      have ev : v = .ref b := Option.some.inj ((show vals[6]? = some v from hg).symm.trans h6)
      subst ev
      exact va_slen hx hb hX hbl hbA hG.2.2.2.2.1 hdg (kk _ (List.mem_singleton.mpr rfl) vals ws H locs ls _ lc hG hl hL2 ⟨rk_norm_ok hG.1 h7, hS⟩)
    · cases h
  case iaload =>
    simp [rk_len] at hlen; subst hlen
    simp only [rk_lawx] at h
    split at h
    · next ix r =>
      split at h
      · next i J hi hJ =>
        split at h
        · next h6J =>
          cases h
          obtain ⟨vi, k0, rfl, hgi, hSn⟩ := hS.cons; clear hS; have hS := hSn; clear hSn
          obtain ⟨v, k1, rfl, hg, hSn⟩ := hS.cons; clear hS; have hS := hSn; clear hSn
          have ev : v = .ref b := Option.some.inj ((show vals[6]? = some v from hg).symm.trans h6)
          subst ev
          obtain ⟨xi, rfl, hin, rfl⟩ := rk_ix_ok hG.1 hgi hi
          obtain ⟨y, ey, y1, y2⟩ := rk_iv_ok hG.1 h7 hJ
          cases ey
          have hLn : (Int32.ofNat L).toInt = L := nI_toInt (n := L) hL
          have hLi : 6 ≤ L := by omega
          have hi6 := (vp_in_iff.mp hin)
          have hin2 : vp_in xi L := vp_in_iff.mpr ⟨hi6.1, by omega⟩
          have hlt : xi.toNatClampNeg < 6 := by have : xi.toNatClampNeg = xi.toInt.toNat := rfl; omega
          exact va_sld hx hb hX hbl hbA hG.2.2.2.2.1 hin2 hdg (kk _ (List.mem_singleton.mpr rfl) vals ws H locs ls _ lc hG hl hL2 ⟨rk_norm_ok hG.1 (rk_v0_at hpre (rk_v0_x hlt)), hS⟩)
        · cases h
      · cases h
    · cases h
  all_goals (simp [rk_lawx] at h)
end RKX
end
section
/-! ===== tk: a typed checker over bytecode: values are numbers: kind (0 int, 1 long, 2 a reference, else null), symbol (0: none), how often, how much ===== -/
abbrev tk_V : Type := Nat × Nat × Nat × Int
abbrev tk_I : Type := Int × Int
/-- vals[i] ≤ vals[j] + c -/
abbrev tk_Q : Type := Nat × Nat × Int
def tk_num (vals : List Int) (a : tk_V) : Option Int := match a.2.1 with
  | 0 => some a.2.2.2
  | k + 1 => match vals[k]? with
    | some z => some ((a.2.2.1 : Int) * z + a.2.2.2)
    | none => none
theorem tk_num_grow {vals : List Int} {a : tk_V} {x : Int} (l : List Int) (h : tk_num vals a = some x) : tk_num (vals ++ l) a = some x := by
  unfold tk_num at h ⊢
  split at h
  · exact h
  · next k =>
    split at h
    · next z hz =>
      rw [List.getElem?_append_left (List.getElem?_eq_some_iff.mp hz).1, hz]
      exact h
    · cases h
def tk_g (vals : List Int) (rads : List Nat) (a : tk_V) (v : Value) : Prop := match a.1 with
  | 0 => ∃ x : Int32, v = .int x ∧ tk_num vals a = some x.toInt
  | 1 => ∃ x : Int64, v = .long x ∧ tk_num vals a = some x.toInt
  | 2 => ∃ x : Nat, rads[a.2.1]? = some x ∧ v = .ref x
  | _ => v = .null
theorem tk_g_grow {vals : List Int} {rads : List Nat} {a : tk_V} {v : Value} (l : List Int) (r : List Nat) (h : tk_g vals rads a v) : tk_g (vals ++ l) (rads ++ r) a v := by
  unfold tk_g at h ⊢
  split at h
  · obtain ⟨x, e, h1⟩ := h
    exact ⟨x, e, tk_num_grow l h1⟩
  · obtain ⟨x, e, h1⟩ := h
    exact ⟨x, e, tk_num_grow l h1⟩
  · obtain ⟨x, h1, e⟩ := h
    exact ⟨x, by rw [List.getElem?_append_left (List.getElem?_eq_some_iff.mp h1).1]; exact h1, e⟩
  · exact h
def tk_E (env : List tk_I) (vals : List Int) : Prop := rk_A2 (fun (I : tk_I) (x : Int) => I.1 ≤ x ∧ x ≤ I.2) env vals
def tk_C (cs : List tk_Q) (vals : List Int) : Prop := ∀ q ∈ cs, ∃ x y : Int, vals[q.1]? = some x ∧ vals[q.2.1]? = some y ∧ x ≤ y + q.2.2
theorem tk_C_grow {cs : List tk_Q} {vals : List Int} (l : List Int) (h : tk_C cs vals) : tk_C cs (vals ++ l) := by
  intro q hq
  obtain ⟨x, y, h1, h2, h3⟩ := h q hq
  exact ⟨x, y, by rw [List.getElem?_append_left (List.getElem?_eq_some_iff.mp h1).1]; exact h1, by rw [List.getElem?_append_left (List.getElem?_eq_some_iff.mp h2).1]; exact h2, h3⟩
def tk_iv (env : List tk_I) (a : tk_V) : Option tk_I := match a.2.1 with
  | 0 => some (a.2.2.2, a.2.2.2)
  | k + 1 => match env[k]? with
    | some I => some ((a.2.2.1 : Int) * I.1 + a.2.2.2, (a.2.2.1 : Int) * I.2 + a.2.2.2)
    | none => none
theorem tk_iv_ok {env : List tk_I} {vals : List Int} {a : tk_V} {x : Int} {I : tk_I} (hE : tk_E env vals) (h : tk_num vals a = some x) (hi : tk_iv env a = some I) : I.1 ≤ x ∧ x ≤ I.2 := by
  unfold tk_num at h
  unfold tk_iv at hi
  split at h
  · next e =>
    rw [e] at hi
    cases h; cases hi
    exact ⟨Int.le_refl _, Int.le_refl _⟩
  · next k e =>
    rw [e] at hi
    dsimp only at hi
    split at h
    · next z hz =>
      cases h
      split at hi
      · next J hJ =>
        cases hi
        obtain ⟨z', hz', h1, h2⟩ := hE.get hJ
        rw [hz] at hz'
        cases hz'
        have hm : (0 : Int) ≤ (a.2.2.1 : Int) := Int.natCast_nonneg _
        have q1 := Int.mul_le_mul_of_nonneg_left h1 hm
        have q2 := Int.mul_le_mul_of_nonneg_left h2 hm
        exact ⟨Int.add_le_add_right q1 _, Int.add_le_add_right q2 _⟩
      · cases hi
    · cases h
theorem tk_iv_some {env : List tk_I} {vals : List Int} {a : tk_V} {x : Int} (hE : tk_E env vals) (h : tk_num vals a = some x) : ∃ I, tk_iv env a = some I := by
  unfold tk_num at h
  unfold tk_iv
  split at h
  · exact ⟨_, rfl⟩
  · next k e =>
    split at h
    · next z hz =>
      obtain ⟨J, hJ, -⟩ := hE.getR hz
      rw [hJ]
      exact ⟨_, rfl⟩
    · cases h
/-- a number of which the bounds are known: a literal, or a new symbol -/
def tk_new (env : List tk_I) (k : Nat) (I : tk_I) : tk_V × List tk_I := if I.1 = I.2 then ((k, 0, 0, I.1), env) else ((k, env.length + 1, 1, 0), env ++ [I])
theorem tk_new_ok {env : List tk_I} {vals : List Int} {I : tk_I} {x : Int} (k : Nat) (hE : tk_E env vals) (h1 : I.1 ≤ x) (h2 : x ≤ I.2) : (tk_new env k I).1.1 = k ∧ ∃ l, tk_E (tk_new env k I).2 (vals ++ l) ∧ tk_num (vals ++ l) (tk_new env k I).1 = some x := by
  unfold tk_new
  split
  · next e =>
    refine ⟨rfl, [], by simpa using hE, ?_⟩
    show some I.1 = some x
    rw [show I.1 = x from by omega]
  · refine ⟨rfl, [x], rk_A2.push hE ⟨h1, h2⟩, ?_⟩
    show (match (vals ++ [x])[env.length]? with
      | some z => some (((1 : Nat) : Int) * z + 0)
      | none => none) = some x
    have e : env.length = vals.length := hE.len
    rw [e, List.getElem?_append_right (Nat.le_refl _), Nat.sub_self]
    show some (((1 : Nat) : Int) * x + 0) = some x
    congr 1
    omega
/-- the bounds of a value are narrowed; none: that can't be -/
def tk_cut (env : List tk_I) (a : tk_V) (lo hi : Int) : Option (List tk_I) := match a.2.1 with
  | 0 => if lo ≤ a.2.2.2 ∧ a.2.2.2 ≤ hi then some env else none
  | k + 1 => match env[k]? with
    | some I => if 0 < a.2.2.1 then (if max I.1 (-((a.2.2.2 - lo) / (a.2.2.1 : Int))) ≤ min I.2 ((hi - a.2.2.2) / (a.2.2.1 : Int)) then some (env.set k (max I.1 (-((a.2.2.2 - lo) / (a.2.2.1 : Int))), min I.2 ((hi - a.2.2.2) / (a.2.2.1 : Int)))) else none) else some env
    | none => some env
theorem tk_cut_ok {env : List tk_I} {vals : List Int} {a : tk_V} {x lo hi : Int} (hE : tk_E env vals) (h : tk_num vals a = some x) (h1 : lo ≤ x) (h2 : x ≤ hi) : ∃ env', tk_cut env a lo hi = some env' ∧ tk_E env' vals := by
  unfold tk_num at h
  unfold tk_cut
  split at h
  · next e =>
    cases h
    exact ⟨env, if_pos ⟨h1, h2⟩, hE⟩
  · next k e =>
    split at h
    · next z hz =>
      cases h
      obtain ⟨I, hI, g1, g2⟩ := hE.getR hz
      rw [hI]
      dsimp only
      split
      · next hm =>
        have hm' : (0 : Int) < (a.2.2.1 : Int) := Int.natCast_pos.mpr hm
        have k1 : -((a.2.2.2 - lo) / (a.2.2.1 : Int)) ≤ z := by
          have : -z ≤ (a.2.2.2 - lo) / (a.2.2.1 : Int) := by
            rw [Int.le_ediv_iff_mul_le hm', Int.neg_mul, Int.mul_comm]
            omega
          omega
        have k2 : z ≤ (hi - a.2.2.2) / (a.2.2.1 : Int) := by
          rw [Int.le_ediv_iff_mul_le hm', Int.mul_comm]
          omega
        rw [if_pos (by omega)]
        exact ⟨_, rfl, rk_A2.setL (R := fun (I : tk_I) (x : Int) => I.1 ≤ x ∧ x ≤ I.2) ⟨by dsimp only; omega, by dsimp only; omega⟩ hE hz⟩
      · exact ⟨_, rfl, hE⟩
    · cases h
/-- a + d is b at most, surely -/
def tk_le (env : List tk_I) (cs : List tk_Q) (a b : tk_V) (d : Int) : Bool := (match tk_iv env a, tk_iv env b with
  | some I, some J => decide (I.2 + d ≤ J.1)
  | _, _ => false) || ((a.2.1 == b.2.1 && (a.2.2.1 == b.2.2.1 && (decide (0 < a.2.1) && decide (a.2.2.2 + d ≤ b.2.2.2)))) || (decide (0 < a.2.1) && (decide (0 < b.2.1) && (a.2.2.1 == 1 && (b.2.2.1 == 1 && cs.any (fun q => q.1 + 1 == a.2.1 && (q.2.1 + 1 == b.2.1 && decide (q.2.2 + a.2.2.2 + d ≤ b.2.2.2))))))))
theorem tk_sym {vals : List Int} {a : tk_V} {x : Int} (h : tk_num vals a = some x) (hs : 0 < a.2.1) : ∃ k z, a.2.1 = k + 1 ∧ vals[k]? = some z ∧ x = (a.2.2.1 : Int) * z + a.2.2.2 := by
  unfold tk_num at h
  split at h
  · next e => omega
  · next k e =>
    split at h
    · next z hz => cases h; exact ⟨k, z, e, hz, rfl⟩
    · cases h
theorem tk_le_ok {env : List tk_I} {cs : List tk_Q} {vals : List Int} {a b : tk_V} {x y d : Int} (hE : tk_E env vals) (hC : tk_C cs vals) (ha : tk_num vals a = some x) (hb : tk_num vals b = some y) (h : tk_le env cs a b d = true) : x + d ≤ y := by
  unfold tk_le at h
  rw [Bool.or_eq_true, Bool.or_eq_true] at h
  rcases h with h | h | h
  · split at h
    · next I J hI hJ =>
      have := tk_iv_ok hE ha hI
      have := tk_iv_ok hE hb hJ
      have := of_decide_eq_true h
      omega
    · cases h
  · simp only [Bool.and_eq_true, beq_iff_eq, decide_eq_true_eq] at h
    obtain ⟨h1, h2, h3, h4⟩ := h
    obtain ⟨k, z, e, hz, rfl⟩ := tk_sym ha h3
    obtain ⟨k', z', e', hz', rfl⟩ := tk_sym hb (by omega)
    have : k = k' := by omega
    subst this
    rw [hz] at hz'
    cases hz'
    rw [h2]
    omega
  · simp only [Bool.and_eq_true, beq_iff_eq, decide_eq_true_eq, List.any_eq_true] at h
    obtain ⟨h1, h2, h3, h4, q, hq, h5, h6, h7⟩ := h
    obtain ⟨k, z, e, hz, rfl⟩ := tk_sym ha h1
    obtain ⟨k', z', e', hz', rfl⟩ := tk_sym hb h2
    obtain ⟨u, w, g1, g2, g3⟩ := hC q hq
    have e1 : q.1 = k := by omega
    have e2 : q.2.1 = k' := by omega
    rw [e1, hz] at g1
    rw [e2, hz'] at g2
    cases g1; cases g2
    rw [h3, h4]
    omega
/-- what is known: bounds, and differences -/
abbrev tk_W : Type := List tk_I × List tk_Q
def tk_H (w : tk_W) (vals : List Int) : Prop := tk_E w.1 vals ∧ tk_C w.2 vals
/-- a + d ≤ b is known from now on -/
def tk_add (w : tk_W) (a b : tk_V) (d : Int) : Option tk_W := match tk_iv w.1 a, tk_iv w.1 b with
  | some I, some J => match tk_cut w.1 a I.1 (J.2 - d) with
    | some e1 => match tk_cut e1 b (I.1 + d) J.2 with
      | some e2 => if 0 < a.2.1 ∧ 0 < b.2.1 ∧ a.2.2.1 = 1 ∧ b.2.2.1 = 1 ∧ ¬ a.2.1 = b.2.1 then some (e2, (a.2.1 - 1, b.2.1 - 1, b.2.2.2 - a.2.2.2 - d) :: w.2) else some (e2, w.2)
      | none => none
    | none => none
  | _, _ => some w
theorem tk_add_ok {w : tk_W} {vals : List Int} {a b : tk_V} {x y d : Int} (hH : tk_H w vals) (ha : tk_num vals a = some x) (hb : tk_num vals b = some y) (h : x + d ≤ y) : ∃ w', tk_add w a b d = some w' ∧ tk_H w' vals := by
  obtain ⟨hE, hC⟩ := hH
  obtain ⟨I, hI⟩ := tk_iv_some hE ha
  obtain ⟨J, hJ⟩ := tk_iv_some hE hb
  have p1 := tk_iv_ok hE ha hI
  have p2 := tk_iv_ok hE hb hJ
  obtain ⟨e1, q1, r1⟩ := tk_cut_ok (lo := I.1) (hi := J.2 - d) hE ha (by omega) (by omega)
  obtain ⟨e2, q2, r2⟩ := tk_cut_ok (lo := I.1 + d) (hi := J.2) r1 hb (by omega) (by omega)
  unfold tk_add
  rw [hI, hJ]
  dsimp only
  rw [q1]
  dsimp only
  rw [q2]
  dsimp only
  split
  · next hc =>
    obtain ⟨c1, c2, c3, c4, -⟩ := hc
    refine ⟨_, rfl, r2, ?_⟩
    intro q hq
    rcases List.mem_cons.mp hq with rfl | hq
    · obtain ⟨k, z, e, hz, rfl⟩ := tk_sym ha c1
      obtain ⟨k', z', e', hz', rfl⟩ := tk_sym hb c2
      refine ⟨z, z', by dsimp only; rw [e]; exact hz, by dsimp only; rw [e']; exact hz', ?_⟩
      rw [c3, c4] at h
      dsimp only
      omega
    · exact hC q hq
  · exact ⟨_, rfl, r2, hC⟩
end
section
/-! ===== tk: comparisons ===== -/
def tk_ne (w : tk_W) (a b : tk_V) : List tk_W := match tk_iv w.1 a, tk_iv w.1 b with
  | some I, some J => if a.2 = b.2 then [] else if J.1 = J.2 then ((tk_cut w.1 a I.1 (J.1 - 1)).toList ++ (tk_cut w.1 a (J.1 + 1) I.2).toList).map (fun e => (e, w.2)) else if I.1 = I.2 then ((tk_cut w.1 b J.1 (I.1 - 1)).toList ++ (tk_cut w.1 b (I.1 + 1) J.2).toList).map (fun e => (e, w.2)) else [w]
  | _, _ => [w]
def tk_lt (w : tk_W) (a b : tk_V) : List tk_W := if tk_le w.1 w.2 b a 0 = true then [] else (tk_add w a b 1).toList
def tk_lq (w : tk_W) (a b : tk_V) : List tk_W := if tk_le w.1 w.2 b a 1 = true then [] else (tk_add w a b 0).toList
def tk_eq (w : tk_W) (a b : tk_V) : List tk_W := if tk_le w.1 w.2 b a 1 = true then [] else if tk_le w.1 w.2 a b 1 = true then [] else ((tk_add w a b 0).bind (fun w => tk_add w b a 0)).toList
def tk_cond (c : ClassFile.Cond) (w : tk_W) (a b : tk_V) : List tk_W := match c with
  | .lt => tk_lt w a b
  | .ge => tk_lq w b a
  | .gt => tk_lt w b a
  | .le => tk_lq w a b
  | .eq => tk_eq w a b
  | .ne => tk_ne w a b
def tk_holds (c : ClassFile.Cond) (x y : Int) : Prop := match c with
  | .eq => x = y
  | .ne => ¬ x = y
  | .lt => x < y
  | .ge => y ≤ x
  | .gt => y < x
  | .le => x ≤ y
theorem tk_toL {α : Type} {o : Option α} {a : α} (h : o = some a) : a ∈ o.toList := by rw [h]; exact List.mem_singleton.mpr rfl
theorem tk_lt_ok {w : tk_W} {vals : List Int} {a b : tk_V} {x y : Int} (hH : tk_H w vals) (ha : tk_num vals a = some x) (hb : tk_num vals b = some y) (h : x < y) : ∃ w' ∈ tk_lt w a b, tk_H w' vals := by
  unfold tk_lt
  split
  · next hc => have := tk_le_ok hH.1 hH.2 hb ha hc; omega
  · obtain ⟨w', h1, h2⟩ := tk_add_ok (d := 1) hH ha hb (by omega)
    exact ⟨w', tk_toL h1, h2⟩
theorem tk_lq_ok {w : tk_W} {vals : List Int} {a b : tk_V} {x y : Int} (hH : tk_H w vals) (ha : tk_num vals a = some x) (hb : tk_num vals b = some y) (h : x ≤ y) : ∃ w' ∈ tk_lq w a b, tk_H w' vals := by
  unfold tk_lq
  split
  · next hc => have := tk_le_ok hH.1 hH.2 hb ha hc; omega
  · obtain ⟨w', h1, h2⟩ := tk_add_ok (d := 0) hH ha hb (by omega)
    exact ⟨w', tk_toL h1, h2⟩
theorem tk_eq_ok {w : tk_W} {vals : List Int} {a b : tk_V} {x y : Int} (hH : tk_H w vals) (ha : tk_num vals a = some x) (hb : tk_num vals b = some y) (h : x = y) : ∃ w' ∈ tk_eq w a b, tk_H w' vals := by
  unfold tk_eq
  split
  · next hc => have := tk_le_ok hH.1 hH.2 hb ha hc; omega
  · split
    · next hc => have := tk_le_ok hH.1 hH.2 ha hb hc; omega
    · obtain ⟨w1, h1, h2⟩ := tk_add_ok (d := 0) hH ha hb (by omega)
      obtain ⟨w2, h3, h4⟩ := tk_add_ok (d := 0) h2 hb ha (by omega)
      exact ⟨w2, tk_toL (by rw [h1]; exact h3), h4⟩
theorem tk_ne_ok {w : tk_W} {vals : List Int} {a b : tk_V} {x y : Int} (hH : tk_H w vals) (ha : tk_num vals a = some x) (hb : tk_num vals b = some y) (h : ¬ x = y) : ∃ w' ∈ tk_ne w a b, tk_H w' vals := by
  unfold tk_ne
  split
  · next I J hI hJ =>
    have p1 := tk_iv_ok hH.1 ha hI
    have p2 := tk_iv_ok hH.1 hb hJ
    split
    · next e =>
      have : tk_num vals a = tk_num vals b := by unfold tk_num; rw [e]
      rw [ha, hb] at this
      exact absurd (Option.some.inj this) h
    · split
      · next e =>
        rcases Int.lt_or_gt_of_ne h with g | g
        · obtain ⟨e1, h1, h2⟩ := tk_cut_ok (lo := I.1) (hi := J.1 - 1) hH.1 ha (by omega) (by omega)
          exact ⟨(e1, w.2), List.mem_map.mpr ⟨e1, List.mem_append_left _ (tk_toL h1), rfl⟩, h2, hH.2⟩
        · obtain ⟨e1, h1, h2⟩ := tk_cut_ok (lo := J.1 + 1) (hi := I.2) hH.1 ha (by omega) (by omega)
          exact ⟨(e1, w.2), List.mem_map.mpr ⟨e1, List.mem_append_right _ (tk_toL h1), rfl⟩, h2, hH.2⟩
      · split
        · next e =>
          rcases Int.lt_or_gt_of_ne h with g | g
          · obtain ⟨e1, h1, h2⟩ := tk_cut_ok (lo := I.1 + 1) (hi := J.2) hH.1 hb (by omega) (by omega)
            exact ⟨(e1, w.2), List.mem_map.mpr ⟨e1, List.mem_append_right _ (tk_toL h1), rfl⟩, h2, hH.2⟩
          · obtain ⟨e1, h1, h2⟩ := tk_cut_ok (lo := J.1) (hi := I.1 - 1) hH.1 hb (by omega) (by omega)
            exact ⟨(e1, w.2), List.mem_map.mpr ⟨e1, List.mem_append_left _ (tk_toL h1), rfl⟩, h2, hH.2⟩
        · exact ⟨w, List.mem_singleton.mpr rfl, hH⟩
  · exact ⟨w, List.mem_singleton.mpr rfl, hH⟩
theorem tk_cond_ok (c : ClassFile.Cond) {w : tk_W} {vals : List Int} {a b : tk_V} {x y : Int} (hH : tk_H w vals) (ha : tk_num vals a = some x) (hb : tk_num vals b = some y) (h : tk_holds c x y) : ∃ w' ∈ tk_cond c w a b, tk_H w' vals := by
  cases c <;> dsimp only [tk_holds] at h <;> dsimp only [tk_cond]
  · exact tk_eq_ok hH ha hb h
  · exact tk_ne_ok hH ha hb h
  · exact tk_lt_ok hH ha hb h
  · exact tk_lq_ok hH hb ha h
  · exact tk_lt_ok hH hb ha h
  · exact tk_lq_ok hH ha hb h
theorem tk_not_ok {c : ClassFile.Cond} {x y : Int} (h : ¬ tk_holds c x y) : tk_holds (rk_not c) x y := by
  cases c <;> dsimp only [tk_holds, rk_not] at h ⊢ <;> omega
/-! ===== tk: sums, differences, products ===== -/
def tk_rng (k : Nat) : tk_I := if k = 0 then (-2147483648, 2147483647) else (-9223372036854775808, 9223372036854775807)
def tk_fit (k : Nat) (K : tk_I) : Bool := decide ((tk_rng k).1 ≤ K.1) && decide (K.2 ≤ (tk_rng k).2)
def tk_wrap (k : Nat) (x : Int) : Int := if k = 0 then x.bmod 4294967296 else x.bmod 18446744073709551616
theorem tk_wrap_in (k : Nat) (x : Int) : (tk_rng k).1 ≤ tk_wrap k x ∧ tk_wrap k x ≤ (tk_rng k).2 := by
  unfold tk_wrap tk_rng
  split
  · have h1 := Int.le_bmod (x := x) (m := 4294967296) (by decide)
    have h2 := Int.bmod_lt (x := x) (m := 4294967296) (by decide)
    dsimp only
    omega
  · have h1 := Int.le_bmod (x := x) (m := 18446744073709551616) (by decide)
    have h2 := Int.bmod_lt (x := x) (m := 18446744073709551616) (by decide)
    dsimp only
    omega
theorem tk_wrap_id {k : Nat} {x : Int} {K : tk_I} (hf : tk_fit k K = true) (h1 : K.1 ≤ x) (h2 : x ≤ K.2) : tk_wrap k x = x := by
  unfold tk_fit tk_rng at hf
  rw [Bool.and_eq_true, decide_eq_true_eq, decide_eq_true_eq] at hf
  unfold tk_wrap
  split
  · next e =>
    rw [if_pos e] at hf
    dsimp only at hf
    apply Int.bmod_eq_of_le <;> omega
  · next e =>
    rw [if_neg e] at hf
    dsimp only at hf
    apply Int.bmod_eq_of_le <;> omega
abbrev tk_VE : Type := tk_V × List tk_I
/-- a result: its kind, its number -/
def tk_is (k : Nat) (vals : List Int) (q : tk_VE) (z : Int) : Prop := q.1.1 = k ∧ ∃ l, tk_E q.2 (vals ++ l) ∧ tk_num (vals ++ l) q.1 = some z
theorem tk_is_new {env : List tk_I} {vals : List Int} {I : tk_I} {x : Int} (k : Nat) (hE : tk_E env vals) (h1 : I.1 ≤ x) (h2 : x ≤ I.2) : tk_is k vals (tk_new env k I) x := tk_new_ok k hE h1 h2
theorem tk_is_old {env : List tk_I} {vals : List Int} {a : tk_V} {x : Int} (k : Nat) (hE : tk_E env vals) (h1 : a.1 = k) (h2 : tk_num vals a = some x) : tk_is k vals (a, env) x := ⟨h1, [], by simpa using hE, by simpa using h2⟩
def tk_sh (k : Nat) (a : tk_V) (c : Int) : tk_V := (k, a.2.1, a.2.2.1, a.2.2.2 + c)
theorem tk_sh_ok {vals : List Int} {a : tk_V} {x : Int} (k : Nat) (c : Int) (h : tk_num vals a = some x) : tk_num vals (tk_sh k a c) = some (x + c) := by
  unfold tk_num tk_sh at *
  dsimp only at *
  split at h
  · cases h; rfl
  · next k e =>
    split at h
    · next z hz => cases h; congr 1; omega
    · cases h
theorem tk_lit {vals : List Int} {a : tk_V} {x : Int} (h : tk_num vals a = some x) (e : a.2.1 = 0) : x = a.2.2.2 := by
  unfold tk_num at h
  rw [e] at h
  exact (Option.some.inj h).symm
def tk_addv (k : Nat) (env : List tk_I) (a b : tk_V) : Option tk_VE := match tk_iv env a, tk_iv env b with
  | some I, some J => if a.2.1 = 0 ∧ b.2.1 = 0 then some ((k, 0, 0, tk_wrap k (a.2.2.2 + b.2.2.2)), env) else if tk_fit k (I.1 + J.1, I.2 + J.2) = true then (if b.2.1 = 0 then some (tk_sh k a b.2.2.2, env) else if a.2.1 = 0 then some (tk_sh k b a.2.2.2, env) else some (tk_new env k (I.1 + J.1, I.2 + J.2))) else some (tk_new env k (tk_rng k))
  | _, _ => none
theorem tk_addv_ok {k : Nat} {env : List tk_I} {vals : List Int} {a b : tk_V} {x y : Int} {q : tk_VE} (hE : tk_E env vals) (ha : tk_num vals a = some x) (hb : tk_num vals b = some y) (h : tk_addv k env a b = some q) : tk_is k vals q (tk_wrap k (x + y)) := by
  unfold tk_addv at h
  split at h
  · next I J hI hJ =>
    have p1 := tk_iv_ok hE ha hI
    have p2 := tk_iv_ok hE hb hJ
    split at h
    · next e =>
      cases h
      rw [tk_lit ha e.1, tk_lit hb e.2]
      exact tk_is_old k hE rfl rfl
    · split at h
      · next hf =>
        have hw : tk_wrap k (x + y) = x + y := tk_wrap_id hf (by dsimp only; omega) (by dsimp only; omega)
        rw [hw]
        split at h
        · next e => cases h; rw [tk_lit hb e]; exact tk_is_old k hE rfl (tk_sh_ok k _ ha)
        · split at h
          · next e => cases h; rw [tk_lit ha e, Int.add_comm]; exact tk_is_old k hE rfl (tk_sh_ok k _ hb)
          · cases h; exact tk_is_new k hE (by dsimp only; omega) (by dsimp only; omega)
      · cases h; exact tk_is_new k hE (tk_wrap_in k _).1 (tk_wrap_in k _).2
  · cases h
def tk_subv (k : Nat) (env : List tk_I) (a b : tk_V) : Option tk_VE := match tk_iv env a, tk_iv env b with
  | some I, some J => if a.2.1 = 0 ∧ b.2.1 = 0 then some ((k, 0, 0, tk_wrap k (a.2.2.2 - b.2.2.2)), env) else if tk_fit k (I.1 - J.2, I.2 - J.1) = true then (if b.2.1 = 0 then some (tk_sh k a (-b.2.2.2), env) else some (tk_new env k (I.1 - J.2, I.2 - J.1))) else some (tk_new env k (tk_rng k))
  | _, _ => none
theorem tk_subv_ok {k : Nat} {env : List tk_I} {vals : List Int} {a b : tk_V} {x y : Int} {q : tk_VE} (hE : tk_E env vals) (ha : tk_num vals a = some x) (hb : tk_num vals b = some y) (h : tk_subv k env a b = some q) : tk_is k vals q (tk_wrap k (x - y)) := by
  unfold tk_subv at h
  split at h
  · next I J hI hJ =>
    have p1 := tk_iv_ok hE ha hI
    have p2 := tk_iv_ok hE hb hJ
    split at h
    · next e =>
      cases h
      rw [tk_lit ha e.1, tk_lit hb e.2]
      exact tk_is_old k hE rfl rfl
    · split at h
      · next hf =>
        have hw : tk_wrap k (x - y) = x - y := tk_wrap_id hf (by dsimp only; omega) (by dsimp only; omega)
        rw [hw]
        split at h
        · next e => cases h; rw [tk_lit hb e]; exact tk_is_old k hE rfl (by rw [Int.sub_eq_add_neg]; exact tk_sh_ok k _ ha)
        · cases h; exact tk_is_new k hE (by dsimp only; omega) (by dsimp only; omega)
      · cases h; exact tk_is_new k hE (tk_wrap_in k _).1 (tk_wrap_in k _).2
  · cases h
def tk_mulI (I J : tk_I) : tk_I := (min (min (I.1 * J.1) (I.1 * J.2)) (min (I.2 * J.1) (I.2 * J.2)), max (max (I.1 * J.1) (I.1 * J.2)) (max (I.2 * J.1) (I.2 * J.2)))
theorem tk_mul1 {I : tk_I} {x : Int} (y : Int) (h1 : I.1 ≤ x) (h2 : x ≤ I.2) : min (I.1 * y) (I.2 * y) ≤ x * y ∧ x * y ≤ max (I.1 * y) (I.2 * y) := by
  by_cases hy : 0 ≤ y
  · have q1 := Int.mul_le_mul_of_nonneg_right h1 hy
    have q2 := Int.mul_le_mul_of_nonneg_right h2 hy
    omega
  · have hy' : y ≤ 0 := by omega
    have q1 := Int.mul_le_mul_of_nonpos_right h1 hy'
    have q2 := Int.mul_le_mul_of_nonpos_right h2 hy'
    omega
theorem tk_mulI_ok {I J : tk_I} {x y : Int} (h1 : I.1 ≤ x) (h2 : x ≤ I.2) (h3 : J.1 ≤ y) (h4 : y ≤ J.2) : (tk_mulI I J).1 ≤ x * y ∧ x * y ≤ (tk_mulI I J).2 := by
  have p := tk_mul1 y h1 h2
  have q1 := tk_mul1 I.1 h3 h4
  have q2 := tk_mul1 I.2 h3 h4
  rw [Int.mul_comm y I.1, Int.mul_comm J.1 I.1, Int.mul_comm J.2 I.1] at q1
  rw [Int.mul_comm y I.2, Int.mul_comm J.1 I.2, Int.mul_comm J.2 I.2] at q2
  unfold tk_mulI
  dsimp only
  omega
def tk_ml (k : Nat) (a : tk_V) (c : Nat) : tk_V := (k, a.2.1, a.2.2.1 * c, a.2.2.2 * (c : Int))
theorem tk_ml_ok {vals : List Int} {a : tk_V} {x : Int} (k c : Nat) (h : tk_num vals a = some x) : tk_num vals (tk_ml k a c) = some (x * (c : Int)) := by
  unfold tk_num tk_ml at *
  dsimp only at *
  split at h
  · cases h; rfl
  · next k e =>
    split at h
    · next z hz =>
      cases h
      congr 1
      rw [Int.add_mul, Int.natCast_mul, Int.mul_right_comm]
    · cases h
def tk_mulv (k : Nat) (env : List tk_I) (a b : tk_V) : Option tk_VE := match tk_iv env a, tk_iv env b with
  | some I, some J => if a.2.1 = 0 ∧ b.2.1 = 0 then some ((k, 0, 0, tk_wrap k (a.2.2.2 * b.2.2.2)), env) else if tk_fit k (tk_mulI I J) = true then (if b.2.1 = 0 ∧ 0 < b.2.2.2 then some (tk_ml k a b.2.2.2.toNat, env) else if a.2.1 = 0 ∧ 0 < a.2.2.2 then some (tk_ml k b a.2.2.2.toNat, env) else some (tk_new env k (tk_mulI I J))) else some (tk_new env k (tk_rng k))
  | _, _ => none
theorem tk_mulv_ok {k : Nat} {env : List tk_I} {vals : List Int} {a b : tk_V} {x y : Int} {q : tk_VE} (hE : tk_E env vals) (ha : tk_num vals a = some x) (hb : tk_num vals b = some y) (h : tk_mulv k env a b = some q) : tk_is k vals q (tk_wrap k (x * y)) := by
  unfold tk_mulv at h
  split at h
  · next I J hI hJ =>
    have p1 := tk_iv_ok hE ha hI
    have p2 := tk_iv_ok hE hb hJ
    split at h
    · next e =>
      cases h
      rw [tk_lit ha e.1, tk_lit hb e.2]
      exact tk_is_old k hE rfl rfl
    · split at h
      · next hf =>
        have hm := tk_mulI_ok p1.1 p1.2 p2.1 p2.2
        have hw : tk_wrap k (x * y) = x * y := tk_wrap_id hf hm.1 hm.2
        rw [hw]
        split at h
        · next e =>
          cases h
          have := tk_ml_ok k b.2.2.2.toNat ha
          rw [show ((b.2.2.2.toNat : Nat) : Int) = y from by rw [tk_lit hb e.1]; omega] at this
          exact tk_is_old k hE rfl this
        · split at h
          · next e =>
            cases h
            have := tk_ml_ok k a.2.2.2.toNat hb
            rw [show ((a.2.2.2.toNat : Nat) : Int) = x from by rw [tk_lit ha e.1]; omega, Int.mul_comm] at this
            exact tk_is_old k hE rfl this
          · cases h; exact tk_is_new k hE hm.1 hm.2
      · cases h; exact tk_is_new k hE (tk_wrap_in k _).1 (tk_wrap_in k _).2
  · cases h
end
section
/-! ===== tk: the other operations on ints ===== -/
def tk_Gand (I J : tk_I) : tk_I := if 0 ≤ I.1 ∧ 0 ≤ J.1 then (0, min I.2 J.2) else rk_iand I J
theorem tk_s_and : rk_sound2 (fun x y => x &&& y) tk_Gand := by
  intro x y I J h1 h2 h3 h4
  unfold tk_Gand
  split
  · next h =>
    have e : (x &&& y).toBitVec.toNat = x.toBitVec.toNat &&& y.toBitVec.toNat := by
      rw [Int32.toBitVec_and, BitVec.toNat_and]
    have l1 : x.toBitVec.toNat &&& y.toBitVec.toNat ≤ x.toBitVec.toNat := Nat.and_le_left
    have l2 : x.toBitVec.toNat &&& y.toBitVec.toNat ≤ y.toBitVec.toNat := Nat.and_le_right
    obtain ⟨a1, a2⟩ := rk_nn (x := x) (by omega)
    obtain ⟨b1, b2⟩ := rk_nn (x := y) (by omega)
    have := rk_of_small (x := x &&& y) (by omega)
    dsimp only
    omega
  · exact rk_s_and x y I J h1 h2 h3 h4
/-- the power of two above -/
def tk_up (n : Int) : Nat := 2 ^ (n.toNat.log2 + 1)
theorem tk_up_ok {x : Int32} {n : Int} (h0 : 0 ≤ x.toInt) (h : x.toInt ≤ n) : x.toBitVec.toNat < tk_up n := by
  obtain ⟨a1, a2⟩ := rk_nn (x := x) h0
  exact Nat.lt_of_le_of_lt (by omega : x.toBitVec.toNat ≤ n.toNat) Nat.lt_log2_self
def tk_Gor (I J : tk_I) : tk_I := if 0 ≤ I.1 ∧ 0 ≤ J.1 ∧ tk_up (max I.2 J.2) ≤ 2147483648 then (0, (tk_up (max I.2 J.2) : Int) - 1) else rk_full
theorem tk_s_or : rk_sound2 (fun x y => x ||| y) tk_Gor := by
  intro x y I J h1 h2 h3 h4
  unfold tk_Gor
  split
  · next h =>
    have e : (x ||| y).toBitVec.toNat = x.toBitVec.toNat ||| y.toBitVec.toNat := by
      rw [Int32.toBitVec_or, BitVec.toNat_or]
    have p1 := tk_up_ok (x := x) (n := max I.2 J.2) (by omega) (by omega)
    have p2 := tk_up_ok (x := y) (n := max I.2 J.2) (by omega) (by omega)
    have p3 : x.toBitVec.toNat ||| y.toBitVec.toNat < tk_up (max I.2 J.2) := Nat.or_lt_two_pow p1 p2
    have := rk_of_small (x := x ||| y) (by omega)
    dsimp only
    omega
  · exact rk_full_ok _
theorem tk_s_xor : rk_sound2 (fun x y => x ^^^ y) tk_Gor := by
  intro x y I J h1 h2 h3 h4
  unfold tk_Gor
  split
  · next h =>
    have e : (x ^^^ y).toBitVec.toNat = x.toBitVec.toNat ^^^ y.toBitVec.toNat := by
      rw [Int32.toBitVec_xor, BitVec.toNat_xor]
    have p1 := tk_up_ok (x := x) (n := max I.2 J.2) (by omega) (by omega)
    have p2 := tk_up_ok (x := y) (n := max I.2 J.2) (by omega) (by omega)
    have p3 : x.toBitVec.toNat ^^^ y.toBitVec.toNat < tk_up (max I.2 J.2) := Nat.xor_lt_two_pow p1 p2
    have := rk_of_small (x := x ^^^ y) (by omega)
    dsimp only
    omega
  · exact rk_full_ok _
def tk_Gshr (I J : tk_I) : tk_I := if 0 ≤ I.1 then (0, I.2) else rk_full
theorem tk_s_shr : rk_sound2 (fun x y => x >>> (y &&& 31)) tk_Gshr := by
  intro x y I J h1 h2 h3 h4
  unfold tk_Gshr
  split
  · next h =>
    have hx : 0 ≤ x.toInt := by omega
    dsimp only
    rw [pk_shr x (y &&& 31) _ rfl, Int.shiftRight_eq_div_pow]
    exact ⟨Int.ediv_nonneg hx (Int.natCast_nonneg _), Int.le_trans (Int.ediv_le_self _ hx) h2⟩
  · exact rk_full_ok _
theorem tk_s_ushr : rk_sound2 (fun x y => (x.toUInt32 >>> (y.toUInt32 &&& Int32.toUInt32 31)).toInt32) tk_Gshr := by
  intro x y I J h1 h2 h3 h4
  unfold tk_Gshr
  split
  · next h =>
    obtain ⟨a1, a2⟩ := rk_nn (x := x) (by omega)
    have e := pk_ushr x y _ rfl
    have l := Nat.div_le_self x.toBitVec.toNat (2 ^ ((y.toUInt32 &&& Int32.toUInt32 31).toBitVec % 32).toNat)
    have := rk_of_small (x := (x.toUInt32 >>> (y.toUInt32 &&& Int32.toUInt32 31)).toInt32) (by omega)
    dsimp only
    omega
  · exact rk_full_ok _
theorem tk_smod : ∀ k, k < 32 → ((nI k &&& 31).toBitVec.smod 32).toNat = k := by decide +kernel
def tk_Gshl (I J : tk_I) : tk_I := if 0 ≤ I.1 ∧ 0 ≤ J.1 ∧ J.2 < 31 ∧ I.2.toNat * 2 ^ J.2.toNat < 2147483648 then (0, ((I.2.toNat * 2 ^ J.2.toNat : Nat) : Int)) else rk_full
theorem tk_s_shl : rk_sound2 (fun x y => x <<< (y &&& 31)) tk_Gshl := by
  intro x y I J h1 h2 h3 h4
  unfold tk_Gshl
  split
  · next h =>
    obtain ⟨a1, a2⟩ := rk_nn (x := x) (by omega)
    obtain ⟨k, hk, rfl⟩ := nI_of (x := y) (by rw [Int32.lt_iff_toInt_lt, Int32.toInt_zero]; omega)
    rw [nI_toInt hk] at h3 h4
    have e := pk_shl x (nI k &&& 31) k (tk_smod k (by omega))
    have q1 : 2 ^ k ≤ 2 ^ J.2.toNat := Nat.pow_le_pow_right (by decide) (by omega)
    have q2 : x.toBitVec.toNat * 2 ^ k ≤ I.2.toNat * 2 ^ J.2.toNat := Nat.mul_le_mul (by omega) q1
    rw [Nat.mod_eq_of_lt (by omega)] at e
    have := rk_of_small (x := x <<< (nI k &&& 31)) (by omega)
    dsimp only
    omega
  · exact rk_full_ok _
def tk_Gdiv (I J : tk_I) : tk_I := if 0 ≤ I.1 ∧ 0 < J.1 then (0, I.2 / J.1) else rk_full
theorem tk_s_div : rk_sound2 (fun x y => x / y) tk_Gdiv := by
  intro x y I J h1 h2 h3 h4
  unfold tk_Gdiv
  split
  · next h =>
    obtain ⟨a, ha, rfl⟩ := nI_of (x := x) (by rw [Int32.lt_iff_toInt_lt, Int32.toInt_zero]; omega)
    obtain ⟨d, hd, rfl⟩ := nI_of (x := y) (by rw [Int32.lt_iff_toInt_lt, Int32.toInt_zero]; omega)
    rw [nI_toInt hd] at h3 h4
    rw [nI_toInt ha] at h1 h2
    dsimp only
    rw [pk_div ha (by omega) hd, nI_toInt (Nat.lt_of_le_of_lt (Nat.div_le_self _ _) ha)]
    refine ⟨Int.natCast_nonneg _, ?_⟩
    rw [Int.le_ediv_iff_mul_le (by omega)]
    have g1 : ((a / d : Nat) : Int) * J.1 ≤ ((a / d : Nat) : Int) * (d : Int) := Int.mul_le_mul_of_nonneg_left h3 (Int.natCast_nonneg _)
    have g2 : ((a / d : Nat) : Int) * (d : Int) ≤ (a : Int) := by
      rw [← Int.natCast_mul]
      exact Int.ofNat_le.mpr (Nat.div_mul_le_self a d)
    omega
  · exact rk_full_ok _
def tk_Grem (I J : tk_I) : tk_I := if 0 ≤ I.1 ∧ 0 < J.1 then (0, min I.2 (J.2 - 1)) else rk_full
theorem tk_s_rem : rk_sound2 (fun x y => x - x / y * y) tk_Grem := by
  intro x y I J h1 h2 h3 h4
  unfold tk_Grem
  split
  · next h =>
    obtain ⟨a, ha, rfl⟩ := nI_of (x := x) (by rw [Int32.lt_iff_toInt_lt, Int32.toInt_zero]; omega)
    obtain ⟨d, hd, rfl⟩ := nI_of (x := y) (by rw [Int32.lt_iff_toInt_lt, Int32.toInt_zero]; omega)
    rw [nI_toInt hd] at h3 h4
    rw [nI_toInt ha] at h1 h2
    have h0 : 0 < d := by omega
    dsimp only
    rw [pk_rem ha h0 hd]
    have := Nat.mod_lt a h0
    have := Nat.mod_le a d
    rw [nI_toInt (by omega)]
    omega
  · exact rk_full_ok _
/-- two ints, an int -/
def tk_op2 (f : Int32 → Int32 → Int32) (G : tk_I → tk_I → tk_I) (env : List tk_I) (a b : tk_V) : Option tk_VE := if a.2.1 = 0 ∧ b.2.1 = 0 then some ((0, 0, 0, (f (Int32.ofInt a.2.2.2) (Int32.ofInt b.2.2.2)).toInt), env) else match tk_iv env a, tk_iv env b with
  | some I, some J => some (tk_new env 0 (G I J))
  | _, _ => none
theorem tk_op2_ok {f : Int32 → Int32 → Int32} {G : tk_I → tk_I → tk_I} (hs : rk_sound2 f G) {env : List tk_I} {vals : List Int} {a b : tk_V} {x y : Int32} {q : tk_VE} (hE : tk_E env vals) (ha : tk_num vals a = some x.toInt) (hb : tk_num vals b = some y.toInt) (h : tk_op2 f G env a b = some q) : tk_is 0 vals q (f x y).toInt := by
  unfold tk_op2 at h
  split at h
  · next e =>
    cases h
    rw [← tk_lit ha e.1, ← tk_lit hb e.2, Int32.ofInt_toInt, Int32.ofInt_toInt]
    exact tk_is_old 0 hE rfl rfl
  · split at h
    · next I J hI hJ =>
      cases h
      have p1 := tk_iv_ok hE ha hI
      have p2 := tk_iv_ok hE hb hJ
      have := hs x y I J p1.1 p1.2 p2.1 p2.2
      exact tk_is_new 0 hE this.1 this.2
    · cases h
/-- one int, an int -/
def tk_op1 (f : Int32 → Int32) (G : tk_I → tk_I) (env : List tk_I) (a : tk_V) : Option tk_VE := if a.2.1 = 0 then some ((0, 0, 0, (f (Int32.ofInt a.2.2.2)).toInt), env) else match tk_iv env a with
  | some I => some (tk_new env 0 (G I))
  | none => none
theorem tk_op1_ok {f : Int32 → Int32} {G : tk_I → tk_I} (hs : ∀ (x : Int32) (I : tk_I), I.1 ≤ x.toInt → x.toInt ≤ I.2 → (G I).1 ≤ (f x).toInt ∧ (f x).toInt ≤ (G I).2) {env : List tk_I} {vals : List Int} {a : tk_V} {x : Int32} {q : tk_VE} (hE : tk_E env vals) (ha : tk_num vals a = some x.toInt) (h : tk_op1 f G env a = some q) : tk_is 0 vals q (f x).toInt := by
  unfold tk_op1 at h
  split at h
  · next e =>
    cases h
    rw [← tk_lit ha e, Int32.ofInt_toInt]
    exact tk_is_old 0 hE rfl rfl
  · split at h
    · next I hI =>
      cases h
      have p1 := tk_iv_ok hE ha hI
      have := hs x I p1.1 p1.2
      exact tk_is_new 0 hE this.1 this.2
    · cases h
def tk_Gneg (I : tk_I) : tk_I := if -2147483648 < I.1 then (-I.2, -I.1) else rk_full
theorem tk_s_neg (x : Int32) (I : tk_I) (h1 : I.1 ≤ x.toInt) (h2 : x.toInt ≤ I.2) : (tk_Gneg I).1 ≤ (-x).toInt ∧ (-x).toInt ≤ (tk_Gneg I).2 := by
  unfold tk_Gneg
  split
  · next h =>
    obtain ⟨f1, f2⟩ := rk_full_ok x
    dsimp only [rk_full] at f1 f2
    have e : (-x).toInt = -x.toInt := by
      rw [Int32.toInt_neg]
      apply Int.bmod_eq_of_le <;> omega
    dsimp only
    omega
  · exact rk_full_ok _
/-- two longs, a long of which nothing is known -/
def tk_lop (f : Int64 → Int64 → Int64) (env : List tk_I) (a b : tk_V) : tk_VE := if a.2.1 = 0 ∧ b.2.1 = 0 then ((1, 0, 0, (f (Int64.ofInt a.2.2.2) (Int64.ofInt b.2.2.2)).toInt), env) else tk_new env 1 (tk_rng 1)
theorem tk_lrng (x : Int64) : (tk_rng 1).1 ≤ x.toInt ∧ x.toInt ≤ (tk_rng 1).2 := by
  have h1 := Int64.le_toInt x
  have h2 := Int64.toInt_le x
  exact ⟨h1, h2⟩
theorem tk_lop_ok {f : Int64 → Int64 → Int64} {env : List tk_I} {vals : List Int} {a b : tk_V} {x y : Int64} (hE : tk_E env vals) (ha : tk_num vals a = some x.toInt) (hb : tk_num vals b = some y.toInt) : tk_is 1 vals (tk_lop f env a b) (f x y).toInt := by
  unfold tk_lop
  split
  · next e =>
    rw [← tk_lit ha e.1, ← tk_lit hb e.2, Int64.ofInt_toInt, Int64.ofInt_toInt]
    exact tk_is_old 1 hE rfl rfl
  · exact tk_is_new 1 hE (tk_lrng _).1 (tk_lrng _).2
end
